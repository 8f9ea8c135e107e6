/-! A small machine over a fixed world of cells: ints are integers, a step says what it needs, and what is proved of it holds of the code. -/
abbrev mj_V : Type := Int ⊕ (Nat ⊕ Int)
abbrev mj_S : Type := Nat → Nat → Int
abbrev mj_C : Type := (FieldType × Nat) ⊕ (Nat × List (Option Nat))
abbrev mj_O : Type := Nat × Int × Nat × List (Int × Nat)
def mj_r (x : Int) : Prop := -2147483648 ≤ x ∧ x ≤ 2147483647
def mj_rl (x : Int) : Prop := -9223372036854775808 ≤ x ∧ x ≤ 9223372036854775807
def mj_okV : mj_V → Prop
  | .inl x => mj_r x
  | .inr (.inl _) => True
  | .inr (.inr x) => mj_rl x
def mj_okS (σ : mj_S) : Prop := ∀ q k, mj_r (σ q k)
def mj_okL (ls : List (Option mj_V)) : Prop := ∀ (i : Nat) (v : mj_V), ls[i]? = some (some v) → mj_okV v
def mj_okT (st : List mj_V) : Prop := ∀ v, v ∈ st → mj_okV v
def mj_c1 : mj_V → Prop
  | .inr (.inr _) => False
  | _ => True
def mj_cat : mj_V → Nat
  | .inr (.inr _) => 2
  | _ => 1
def mj_v (ad : Nat → Nat) : mj_V → Value
  | .inl x => .int (Int32.ofInt x)
  | .inr (.inl q) => .ref (ad q)
  | .inr (.inr x) => .long (Int64.ofInt x)
def mj_slot (ad : Nat → Nat) (f : Nat → Int) (k : Nat) (o : Option Nat) : Value := match o with
  | none => .int (Int32.ofInt (f k))
  | some q => .ref (ad q)
def mj_e (cA : FieldType → ClassId) (ad : Nat → Nat) (f : Nat → Int) : mj_C → va_E
  | .inl x => .inl (cA x.1, x.2, .inl (fun i => Int32.ofInt (f i)))
  | .inr o => .inr (o.1, o.2.mapIdx (mj_slot ad f))
def mj_w (cA : FieldType → ClassId) (ad : Nat → Nat) (L : List mj_C) (σ : mj_S) : va_W := L.mapIdx (fun q c => (ad q, mj_e cA ad (σ q) c))
def mj_up (σ : mj_S) (q k : Nat) (x : Int) : mj_S := fun i j => if i = q then (if j = k then x else σ i j) else σ i j
def mj_cp (σ : mj_S) (q1 q0 sp dp n : Nat) : mj_S := fun i j => if i = q1 then (if dp ≤ j ∧ j < dp + n then σ q0 (sp + (j - dp)) else σ i j) else σ i j
def mj_A (ad : Nat → Nat) (L : List mj_C) : Nat → Prop := fun q => ∃ i, i < L.length ∧ ad i = q
def mj_D (ad : Nat → Nat) (L : List mj_C) : Prop := ∀ i j, i < L.length → j < L.length → ad i = ad j → i = j
theorem mj_w_get (cA : FieldType → ClassId) (ad : Nat → Nat) (L : List mj_C) (σ : mj_S) (q : Nat) : (mj_w cA ad L σ)[q]? = (L[q]?).map (fun c => (ad q, mj_e cA ad (σ q) c)) := by
  unfold mj_w
  rw [List.getElem?_mapIdx]
theorem mj_w_some {cA : FieldType → ClassId} {ad : Nat → Nat} {L : List mj_C} {σ : mj_S} {q : Nat} {c : mj_C} (h : L[q]? = some c) : (mj_w cA ad L σ)[q]? = some (ad q, mj_e cA ad (σ q) c) := by
  rw [mj_w_get, h]; rfl
theorem mj_w_len (cA : FieldType → ClassId) (ad : Nat → Nat) (L : List mj_C) (σ : mj_S) : (mj_w cA ad L σ).length = L.length := by
  unfold mj_w
  rw [List.length_mapIdx]
theorem mj_w_upd {cA : FieldType → ClassId} {ad : Nat → Nat} {L : List mj_C} {σ σ' : mj_S} {q : Nat} {c : mj_C} (hc : L[q]? = some c) (h : ∀ i, i ≠ q → σ' i = σ i) : (mj_w cA ad L σ).set q (ad q, mj_e cA ad (σ' q) c) = mj_w cA ad L σ' := by
  apply List.ext_getElem?
  intro i
  have hq : q < L.length := (List.getElem?_eq_some_iff.mp hc).1
  rw [List.getElem?_set, mj_w_get, mj_w_get, mj_w_len]
  by_cases hi : q = i
  · subst hi
    rw [if_pos rfl, if_pos hq, hc]; rfl
  · rw [if_neg hi, h i (fun e => hi e.symm)]
theorem mj_va_D {cA : FieldType → ClassId} {ad : Nat → Nat} {L : List mj_C} (h : mj_D ad L) (σ : mj_S) : va_D (mj_A ad L) (mj_w cA ad L σ) := by
  have hlt : ∀ (k : Nat) (q : Nat × va_E), (mj_w cA ad L σ)[k]? = some q → k < L.length ∧ q.1 = ad k := by
    intro k q hk
    rw [mj_w_get] at hk
    cases hc : L[k]? with
    | none => rw [hc] at hk; cases hk
    | some c =>
      rw [hc] at hk
      cases hk
      exact ⟨(List.getElem?_eq_some_iff.mp hc).1, rfl⟩
  refine ⟨fun i j p q hi hj hpq => ?_, fun k q hk => ?_⟩
  · obtain ⟨h1, h2⟩ := hlt i p hi
    obtain ⟨h3, h4⟩ := hlt j q hj
    exact h i j h1 h3 (by rw [← h2, ← h4]; exact hpq)
  · obtain ⟨h1, h2⟩ := hlt k q hk
    exact ⟨k, h1, h2.symm⟩
theorem mj_e_up {cA : FieldType → ClassId} {ad : Nat → Nat} {σ : mj_S} {q k : Nat} {x : Int} {z : FieldType × Nat} : mj_e cA ad (mj_up σ q k x q) (.inl z) = .inl (cA z.1, z.2, .inl (upd (fun i => Int32.ofInt (σ q i)) k (Int32.ofInt x))) := by
  unfold mj_e mj_up upd
  simp only [if_true]
  congr 3
  congr 1
  funext i
  by_cases h : i = k
  · rw [if_pos h, if_pos h]
  · rw [if_neg h, if_neg h]
theorem mj_e_cp {cA : FieldType → ClassId} {ad : Nat → Nat} {σ : mj_S} {q1 q0 sp dp n : Nat} {z : FieldType × Nat} : mj_e cA ad (mj_cp σ q1 q0 sp dp n q1) (.inl z) = .inl (cA z.1, z.2, .inl (va_cpy (fun i => Int32.ofInt (σ q0 i)) (fun i => Int32.ofInt (σ q1 i)) sp dp n)) := by
  unfold mj_e mj_cp va_cpy
  simp only [if_true]
  congr 3
  congr 1
  funext i
  by_cases h : dp ≤ i ∧ i < dp + n
  · rw [if_pos h, if_pos h]
  · rw [if_neg h, if_neg h]
theorem mj_e_put {cA : FieldType → ClassId} {ad : Nat → Nat} {σ : mj_S} {q k : Nat} {x : Int} {ci : Nat} {sl : List (Option Nat)} (hk : sl[k]? = some none) : mj_e cA ad (mj_up σ q k x q) (.inr (ci, sl)) = .inr (ci, (sl.mapIdx (mj_slot ad (σ q))).set k (.int (Int32.ofInt x))) := by
  show (Sum.inr (ci, sl.mapIdx (mj_slot ad (mj_up σ q k x q))) : va_E) = _
  congr 2
  have hl : k < sl.length := (List.getElem?_eq_some_iff.mp hk).1
  apply List.ext_getElem?
  intro i
  rw [List.getElem?_set, List.getElem?_mapIdx, List.getElem?_mapIdx, List.length_mapIdx]
  by_cases hi : k = i
  · subst hi
    rw [if_pos rfl, if_pos hl, hk]
    simp [mj_slot, mj_up]
  · rw [if_neg hi]
    cases sl[i]? with
    | none => rfl
    | some o =>
      cases o with
      | none =>
        have hi2 : ¬ i = k := fun e => hi e.symm
        simp [mj_slot, mj_up, hi2]
      | some z => rfl
theorem mj_up_ok {σ : mj_S} (h : mj_okS σ) {q k : Nat} {x : Int} (hx : mj_r x) : mj_okS (mj_up σ q k x) := by
  intro i j
  unfold mj_up
  by_cases h1 : i = q
  · rw [if_pos h1]
    by_cases h2 : j = k
    · rw [if_pos h2]; exact hx
    · rw [if_neg h2]; exact h i j
  · rw [if_neg h1]; exact h i j
theorem mj_cp_ok {σ : mj_S} (h : mj_okS σ) {q1 q0 sp dp n : Nat} : mj_okS (mj_cp σ q1 q0 sp dp n) := by
  intro i j
  unfold mj_cp
  by_cases h1 : i = q1
  · rw [if_pos h1]
    by_cases h2 : dp ≤ j ∧ j < dp + n
    · rw [if_pos h2]; exact h _ _
    · rw [if_neg h2]; exact h i j
  · rw [if_neg h1]; exact h i j
theorem mj_up_off {σ : mj_S} {q k : Nat} {x : Int} : ∀ i, i ≠ q → mj_up σ q k x i = σ i := by
  intro i hi
  funext j
  unfold mj_up
  rw [if_neg hi]
theorem mj_cp_off {σ : mj_S} {q1 q0 sp dp n : Nat} : ∀ i, i ≠ q1 → mj_cp σ q1 q0 sp dp n i = σ i := by
  intro i hi
  funext j
  unfold mj_cp
  rw [if_neg hi]
-- numbers
theorem mj_ti {x : Int} (h : mj_r x) : (Int32.ofInt x).toInt = x := Int32.toInt_ofInt_of_le (by have := h.1; omega) (by have := h.2; omega)
theorem mj_tl {x : Int} (h : mj_rl x) : (Int64.ofInt x).toInt = x := Int64.toInt_ofInt_of_le (by have := h.1; omega) (by have := h.2; omega)
theorem mj_lt {x y : Int} (hx : mj_r x) (hy : mj_r y) : Int32.ofInt x < Int32.ofInt y ↔ x < y := by rw [Int32.lt_iff_toInt_lt, mj_ti hx, mj_ti hy]
theorem mj_le {x y : Int} (hx : mj_r x) (hy : mj_r y) : Int32.ofInt x ≤ Int32.ofInt y ↔ x ≤ y := by rw [Int32.le_iff_toInt_le, mj_ti hx, mj_ti hy]
theorem mj_eq {x y : Int} (hx : mj_r x) (hy : mj_r y) : Int32.ofInt x = Int32.ofInt y ↔ x = y := by rw [← Int32.toInt_inj, mj_ti hx, mj_ti hy]
theorem mj_0 : mj_r 0 := ⟨by decide, by decide⟩
theorem mj_in {x : Int} {n : Nat} (hx : mj_r x) (h0 : 0 ≤ x) (h1 : x < n) : vp_in (Int32.ofInt x) n := vp_in_iff.mpr (by rw [mj_ti hx]; exact ⟨h0, h1⟩)
theorem mj_cl {x : Int} (hx : mj_r x) : (Int32.ofInt x).toNatClampNeg = x.toNat := Int32.toNatClampNeg_ofInt_of_le (by have := hx.1; omega) (by have := hx.2; omega)
theorem mj_nI {x : Int} (h0 : 0 ≤ x) : Int32.ofInt x = nI x.toNat := by
  have : x = ((x.toNat : Nat) : Int) := by omega
  rw [this]
  exact Int32.ofInt_eq_ofNat
theorem mj_div {x y : Int} (hx : mj_r x) (hy : mj_r y) (h0 : 0 ≤ x) (h1 : 0 < y) : Int32.ofInt x / Int32.ofInt y = Int32.ofInt (x / y) := by
  obtain ⟨a, rfl⟩ := Int.eq_ofNat_of_zero_le h0
  obtain ⟨b, rfl⟩ := Int.eq_ofNat_of_zero_le (Int.le_of_lt h1)
  have ha := hx.2
  have hb := hy.2
  rw [← Int.natCast_ediv, Int32.ofInt_eq_ofNat, Int32.ofInt_eq_ofNat, Int32.ofInt_eq_ofNat]
  exact pk_div (a := a) (d := b) (by omega) (by omega) (by omega)
theorem mj_rem {x y : Int} (hx : mj_r x) (hy : mj_r y) (h0 : 0 ≤ x) (h1 : 0 < y) : Int32.ofInt x - Int32.ofInt x / Int32.ofInt y * Int32.ofInt y = Int32.ofInt (x % y) := by
  obtain ⟨a, rfl⟩ := Int.eq_ofNat_of_zero_le h0
  obtain ⟨b, rfl⟩ := Int.eq_ofNat_of_zero_le (Int.le_of_lt h1)
  have ha := hx.2
  have hb := hy.2
  rw [← Int.natCast_emod, Int32.ofInt_eq_ofNat, Int32.ofInt_eq_ofNat, Int32.ofInt_eq_ofNat]
  exact pk_rem (a := a) (d := b) (by omega) (by omega) (by omega)
theorem mj_ne0 {y : Int} (hy : mj_r y) (h1 : 0 < y) : ¬ Int32.ofInt y = 0 := by
  intro h
  have h2 : Int32.ofInt y = Int32.ofInt 0 := h
  rw [mj_eq hy mj_0] at h2
  omega
theorem mj_i2c {x : Int} (hx : mj_r x) : ((Int32.ofInt x).toUInt32 % 65536).toInt32 = Int32.ofInt (x % 65536) := by
  have h3 : (Int32.ofInt x).toBitVec = BitVec.ofInt 32 x := rfl
  rw [pk_char, h3, BitVec.toNat_ofInt, mj_nI (by omega)]
  congr 1
  omega
theorem mj_i2l {x : Int} (hx : mj_r x) : (Int32.ofInt x).toInt64 = Int64.ofInt x := by
  apply Int64.toInt_inj.mp
  rw [Int32.toInt_toInt64, mj_ti hx, mj_tl ⟨by have := hx.1; omega, by have := hx.2; omega⟩]
theorem mj_lcmp {x y : Int} (hx : mj_rl x) (hy : mj_rl y) : lg_cmp (Int64.ofInt x) (Int64.ofInt y) = Int32.ofInt (if y < x then 1 else if x = y then 0 else -1) := by
  unfold lg_cmp
  simp only [gt_iff_lt, Int64.lt_iff_toInt_lt, ← Int64.toInt_inj, mj_tl hx, mj_tl hy]
  by_cases h1 : y < x
  · rw [if_pos h1, if_pos h1]; rfl
  · rw [if_neg h1, if_neg h1]
    by_cases h2 : x = y
    · rw [if_pos h2, if_pos h2]; rfl
    · rw [if_neg h2, if_neg h2]; rfl
