/-! what is still to be done: the reference's list of it beside the code -/
theorem z_el_s (A B : Nat → Int) (x : Int) (i : Nat) : z_el A B (z_cd B x) i = z_el A B x (i + 1) := by
  unfold z_el
  rw [z_nth_s]
theorem z_isl_t {B : Nat → Int} {x : Int} {n : Nat} (h : z_isl B x (n + 1)) : (536870912 ≤ x ∧ x < 536871312) ∧ z_isl B (z_cd B x) n := by
  obtain ⟨h1, h2⟩ := z_len_t h.1
  exact ⟨h1, h2, by rw [z_nth_s]; exact h.2⟩
theorem z_isl_0 {B : Nat → Int} {x : Int} (h : z_isl B x 0) : x = 268435456 := h.2
/-- jumps that lead on -/
def z_j (K : z_K) : Nat → Nat → Nat → Prop
  | 0, a, b => a = b
  | n + 1, a, b => ∃ c : Nat, z_in K a 4 (c : Int) 0 ∧ z_j K n c b
theorem z_j_app {K : z_K} {c d : Nat} (h : z_in K c 4 (d : Int) 0) : ∀ {n a : Nat}, z_j K n a c → z_j K (n + 1) a d
  | 0, a, e => by
    have e' : a = c := e
    rw [e']; exact ⟨d, h, rfl⟩
  | n + 1, a, ⟨b, h1, h2⟩ => ⟨b, h1, z_j_app h h2⟩
/-- code of clauses, to their end -/
def z_cls (A B : Nat → Int) (K : z_K) (k : Nat) (E : List (Int × Int)) (x : Int) (pl : Int) (tl : Bool) (a hi : Nat) : Prop :=
  ∃ (n : Nat) (f : Nat → Nat), z_isl B x n ∧ f 0 = a ∧ (∀ i, i < n → z_ccl A B K (z_C A B K k) E pl tl hi (z_el A B x i) (f i) (f (i + 1)) 0) ∧ z_in K (f n) 2 268435456 0 ∧ hi = f n + 1
/-- code of and, or: at least one form -/
def z_ao (A B : Nat → Int) (K : z_K) (k : Nat) (o : Int) (E : List (Int × Int)) (x : Int) (pl : Int) (tl : Bool) (a hi : Nat) : Prop :=
  ∃ (n : Nat) (f g : Nat → Nat), z_isl B x (n + 1) ∧ f 0 = a ∧ (∀ i, i < n → z_C A B K k E (z_el A B x i) pl false (f i) (g i) ∧ z_in K (g i) o (hi : Int) 0 ∧ f (i + 1) = g i + 1) ∧ z_C A B K k E (z_el A B x n) pl tl (f n) hi
/-- code of c forms in a row; n = 1: of the seconds of couples -/
def z_args (A B : Nat → Int) (K : z_K) (k : Nat) (E : List (Int × Int)) (n : Int) (x : Int) (pl : Int) (a c b : Nat) : Prop :=
  ∃ f : Nat → Nat, z_isl B x c ∧ f 0 = a ∧ f c = b ∧ (n = 0 ∨ (n = 1 ∧ ∀ i, i < c → z_isl B (z_el A B x i) 2)) ∧ z_fs (z_C A B K k) E (fun i => if n = 0 then z_el A B x i else z_el A B (z_el A B x i) 1) pl c f
def z_tl (fn tl : Bool) (t : Int) : Prop := (tl = true → fn = true) ∧ t = (if tl then 1 else 0)
/-- places of names: below p, and not the empty one h -/
def z_eb (h : Int) (E : List (Int × Int)) (p : Nat) : Prop := h < p ∧ E.length ≤ p ∧ ∀ a r, (a, r) ∈ E → 0 ≤ r ∧ r < p ∧ r ≠ h
/-- one thing to be done, at index m: code from a to b, names E then E', places taken pl then pl' -/
def z_it (A B : Nat → Int) (K : z_K) (h : Int) (m q : Nat) (fn : Bool) (w x n t : Int) (E : List (Int × Int)) (pl a : Nat) (E' : List (Int × Int)) (pl' b : Nat) : Prop :=
  (w = 1 ∧ ∃ (k : Nat) (tl : Bool), m + 2 * k ≤ q + 24 ∧ z_tl fn tl t ∧ z_eb h E pl ∧ z_C A B K k E x pl tl a b ∧ E' = E ∧ pl' = pl + 1) ∨
  (w = 2 ∧ ∃ k c : Nat, m + 1 + 2 * k ≤ q + 24 ∧ z_eb h E pl ∧ z_args A B K k E n x pl a c b ∧ E' = E ∧ pl' = pl + c) ∨
  (w = 3 ∧ ∃ (k : Nat) (tl : Bool) (p0 c : Nat), m + 2 * k ≤ q + 24 ∧ z_tl fn tl t ∧ pl = p0 + 1 ∧ z_eb h E p0 ∧ z_isl B x 4 ∧ z_in K a 5 ((c : Int) + 1) 0 ∧ z_C A B K k E (z_el A B x 2) p0 tl (a + 1) c ∧ z_in K c 4 (b : Int) 0 ∧ z_C A B K k E (z_el A B x 3) p0 tl (c + 1) b ∧ E' = E ∧ pl' = pl) ∨
  (w = 4 ∧ ∃ (k : Nat) (tl : Bool) (p0 c i : Nat), m + 1 + 2 * k ≤ q + 24 ∧ z_tl fn tl t ∧ n = i ∧ pl = p0 + i ∧ z_eb h E p0 ∧ z_isl B x 3 ∧ z_isl B (z_el A B x 1) i ∧ (∀ j, j < i → z_isl B (z_el A B (z_el A B x 1) j) 2) ∧ z_C A B K k (z_bd (fun j => z_el A B (z_el A B (z_el A B x 1) j) 0) p0 i E) (z_el A B x 2) ((p0 : Int) + i) tl a c ∧ z_in K c 8 (i : Int) 0 ∧ b = c + 1 ∧ E' = E ∧ pl' = p0 + 1) ∨
  (w = 5 ∧ ∃ p0 i : Nat, n = i ∧ pl = p0 + i + 1 ∧ i ≤ E.length ∧ z_in K a 8 (i : Int) 0 ∧ b = a + 1 ∧ E' = E.drop i ∧ z_eb h E' p0 ∧ pl' = p0 + 1) ∨
  (w = 6 ∧ ∃ (k : Nat) (tl : Bool), m + 1 + 2 * k ≤ q + 24 ∧ z_tl fn tl t ∧ z_eb h E pl ∧ z_cls A B K k E x pl tl a b ∧ E' = E ∧ pl' = pl + 1) ∨
  (w = 7 ∧ ∃ (k : Nat) (tl : Bool) (p0 c : Nat), m + 1 + 2 * k ≤ q + 24 ∧ z_tl fn tl t ∧ pl = p0 + 1 ∧ z_eb h E p0 ∧ (536870912 ≤ x ∧ x < 536871312) ∧ z_isl B (z_el A B x 0) 2 ∧ z_in K a 5 ((c : Int) + 1) 0 ∧ z_C A B K k E (z_el A B (z_el A B x 0) 1) p0 tl (a + 1) c ∧ z_in K c 4 (b : Int) 0 ∧ z_cls A B K k E (z_cd B x) p0 tl (c + 1) b ∧ E' = E ∧ pl' = pl) ∨
  ((w = 8 ∨ w = 10) ∧ ∃ (k : Nat) (tl : Bool), m + 1 + 2 * k ≤ q + 24 ∧ z_tl fn tl t ∧ z_eb h E pl ∧ z_ao A B K k (if w = 8 then 6 else 7) E x pl tl a b ∧ E' = E ∧ pl' = pl + 1) ∨
  ((w = 9 ∨ w = 11) ∧ ∃ (k : Nat) (tl : Bool) (p0 : Nat), m + 1 + 2 * k ≤ q + 24 ∧ z_tl fn tl t ∧ pl = p0 + 1 ∧ z_eb h E p0 ∧ (536870912 ≤ x ∧ x < 536871312) ∧ z_in K a (if w = 9 then 6 else 7) (b : Int) 0 ∧ z_ao A B K k (if w = 9 then 6 else 7) E (z_cd B x) p0 tl (a + 1) b ∧ E' = E ∧ pl' = pl) ∨
  (w = 12 ∧ ∃ p0 i : Nat, n = i ∧ pl = p0 + i ∧ z_eb h E p0 ∧ z_in K a 2 268435456 0 ∧ (∀ j, j < i → z_in K (a + 1 + j) 268435466 0 0) ∧ b = a + 1 + i ∧ E' = E ∧ pl' = p0 + 1) ∨
  (w = 13 ∧ ∃ p0 : Nat, 10 ≤ n ∧ n ≤ 20 ∧ pl = p0 + (z_ar (268435456 + n)).toNat ∧ z_eb h E p0 ∧ z_in K a (268435456 + n) 0 0 ∧ b = a + 1 ∧ E' = E ∧ pl' = p0 + 1) ∨
  (w = 14 ∧ ∃ (tl : Bool) (p0 i : Nat), n = i ∧ z_tl fn tl t ∧ 268435456 ≤ x ∧ x < 536870912 ∧ pl = p0 + i ∧ z_eb h E p0 ∧ z_in K a (if tl then 10 else 9) x (i : Int) ∧ b = a + 1 ∧ E' = E ∧ pl' = p0 + 1)
/-- all that is to be done: m things; u counts what instructions they can still need beside those of forms -/
def z_ch (A B : Nat → Int) (K : z_K) (σ τ : mj_S) : Nat → Bool → Nat → List (Int × Int) → Nat → Nat → Int → Nat → Nat → Nat → Nat → Prop
  | 0, fn, a, _, pl, fb, hole, bg, fr, q, u => fn = false ∧ ∃ b, z_j K u a b ∧ z_in K b 0 0 0 ∧ pl = 1 ∧ fb = 0 ∧ fr = 0 ∧ q = 0 ∧ bg = 0 ∧ hole = -1
  | m + 1, fn, a, E, pl, fb, hole, bg, fr, q, u => ∃ jn b u' : Nat, z_j K jn a b ∧ u = u' + 3 + jn ∧
      ((τ 16 m = 15 ∧ fn = true ∧ q = m + 1 ∧ z_in K b 11 0 0 ∧ ∃ hp : Nat, hole = hp ∧ fb ≤ hp ∧ hole + 2 ≤ (fb : Int) + pl ∧ ∃ (fn0 : Bool) (a0 : Nat) (E0 : List (Int × Int)) (p0 fb0 : Nat) (hole0 : Int) (bg0 fr0 q0 : Nat),
          σ 30 hp = a0 ∧ σ 31 hp = fb0 ∧ σ 32 hp = hole0 ∧ fr = fr0 + 2 ∧ τ 23 fr0 = bg0 ∧ (fn0 = true → τ 23 (fr0 + 1) = fb0) ∧ fb = fb0 + p0 ∧ hole0 < fb ∧ m ≤ q0 + 25 ∧ z_ev (τ 21) (τ 22) fb0 bg0 E0 bg ∧ (∀ i : Nat, fb0 ≤ i → i < fb → (i : Int) ≠ hole0 → 0 ≤ τ 20 i) ∧
          z_ch A B K σ τ m fn0 a0 E0 (p0 + 1) fb0 hole0 bg0 fr0 q0 u') ∨
       (¬ τ 16 m = 15 ∧ ∃ (E' : List (Int × Int)) (pl' b' : Nat), z_it A B K (hole - fb) m q fn (τ 16 m) (τ 17 m) (τ 18 m) (τ 19 m) E pl b E' pl' b' ∧ z_ch A B K σ τ m fn b' E' pl' fb hole bg fr q u'))
/-- only what lies below matters: things below m, variables below bg + E, frames, the stack below fb, the holes' callers -/
theorem z_ch_frame {A B : Nat → Int} {K : z_K} {σ τ σ' τ' : mj_S} : ∀ {m : Nat} {fn : Bool} {a : Nat} {E : List (Int × Int)} {pl fb : Nat} {hole : Int} {bg fr q u : Nat},
    (∀ i, i < m → τ' 16 i = τ 16 i ∧ τ' 17 i = τ 17 i ∧ τ' 18 i = τ 18 i ∧ τ' 19 i = τ 19 i) → (∀ i, i < bg → τ' 21 i = τ 21 i ∧ τ' 22 i = τ 22 i) → (∀ i, i < fr → τ' 23 i = τ 23 i) → (∀ i, i < fb → τ' 20 i = τ 20 i) → (∀ i : Nat, (i : Int) ≤ hole → σ' 30 i = σ 30 i ∧ σ' 31 i = σ 31 i ∧ σ' 32 i = σ 32 i) →
    z_ch A B K σ τ m fn a E pl fb hole bg fr q u → z_ch A B K σ' τ' m fn a E pl fb hole bg fr q u
  | 0, _, _, _, _, _, _, _, _, _, _, _, _, _, _, _, h => h
  | m + 1, fn, a, E, pl, fb, hole, bg, fr, q, u, hW, hV, hF, hS, hH, h => by
    obtain ⟨jn, b, u', h1, h2, h⟩ := h
    obtain ⟨w1, w2, w3, w4⟩ := hW m (by omega)
    refine ⟨jn, b, u', h1, h2, ?_⟩
    rcases h with ⟨h3, h4, h5, h6, hp, h7, h8, h8', fn0, a0, E0, p0, fb0, hole0, bg0, fr0, q0, g1, g2, g3, g4, g5, g6, g7, g8, g9, g10, g11, g12⟩ | ⟨h3, E', pl', b', h4, h5⟩
    · have hbg : bg0 ≤ bg := by have := z_ev_len g10; omega
      obtain ⟨e1, e2, e3⟩ := hH hp (by omega)
      refine Or.inl ⟨by rw [w1]; exact h3, h4, h5, h6, hp, h7, h8, h8', fn0, a0, E0, p0, fb0, hole0, bg0, fr0, q0, by rw [e1, g1], by rw [e2, g2], by rw [e3, g3], g4, by rw [hF _ (by omega), g5], fun z => by rw [hF _ (by omega), g6 z], g7, g8, g9, z_ev_frame hV g10, fun i i1 i2 i3 => by rw [hS i i2]; exact g11 i i1 i2 i3, ?_⟩
      exact z_ch_frame (fun i hi => hW i (by omega)) (fun i hi => hV i (by omega)) (fun i hi => hF i (by omega)) (fun i hi => hS i (by omega)) (fun i hi => hH i (by omega)) g12
    · refine Or.inr ⟨by rw [w1]; exact h3, E', pl', b', by rw [w1, w2, w3, w4]; exact h4, ?_⟩
      exact z_ch_frame (fun i hi => hW i (by omega)) hV hF hS hH h5
