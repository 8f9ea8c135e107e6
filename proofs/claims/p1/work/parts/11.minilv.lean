/-! the small machine's variables beside the real ones -/
def mj_nl (ls : List (Option mj_V)) (i : Nat) : Prop := match i with
  | 0 => True
  | j + 1 => match ls[j]? with
    | some (some (.inr (.inr _))) => False
    | _ => True
def mj_LR (nL : Nat) (ad : Nat → Nat) (ls : List (Option mj_V)) (real : Array Slot) : Prop := ls.length = nL ∧ real.size = nL ∧ lv_wf real ∧ ∀ (i : Nat) (v : mj_V), ls[i]? = some (some v) → real[i]? = some (.val (mj_v ad v))
def mj_ps (ad : Nat → Nat) (ls : List (Option mj_V)) : List (Nat × Value) := ls.zipIdx.filterMap (fun q => q.1.map (fun v => (q.2, mj_v ad v)))
theorem mj_ps_mem {ad : Nat → Nat} {ls : List (Option mj_V)} {q : Nat × Value} : q ∈ mj_ps ad ls ↔ ∃ v, ls[q.1]? = some (some v) ∧ q.2 = mj_v ad v := by
  unfold mj_ps
  rw [List.mem_filterMap]
  constructor
  · rintro ⟨⟨o, i⟩, h1, h2⟩
    rw [List.mem_zipIdx_iff_getElem?] at h1
    cases o with
    | none => cases h2
    | some v =>
      cases h2
      exact ⟨v, h1, rfl⟩
  · rintro ⟨v, h1, h2⟩
    refine ⟨(some v, q.1), List.mem_zipIdx_iff_getElem?.mpr h1, ?_⟩
    obtain ⟨a, b⟩ := q
    dsimp only at h2
    subst h2
    rfl
theorem mj_LR.has {nL : Nat} {ad : Nat → Nat} {ls : List (Option mj_V)} {real : Array Slot} (h : mj_LR nL ad ls real) : lv_has real nL (mj_ps ad ls) := by
  refine ⟨h.2.1, h.2.2.1, fun q hq => ?_⟩
  obtain ⟨v, h1, h2⟩ := mj_ps_mem.mp hq
  rw [h2]
  exact h.2.2.2 _ _ h1
theorem mj_cat1 {ad : Nat → Nat} {w : mj_V} (h : mj_c1 w) : (mj_v ad w).category = 1 := by
  rcases w with x | q | x
  · rfl
  · rfl
  · exact h.elim
theorem mj_catv (ad : Nat → Nat) (w : mj_V) : (mj_v ad w).category = mj_cat w := by
  rcases w with x | q | x <;> rfl
theorem mj_nl_use {ls : List (Option mj_V)} {i : Nat} (h : mj_nl ls i) {j : Nat} {w : mj_V} (hj : j + 1 = i) (hw : ls[j]? = some (some w)) : mj_c1 w := by
  subst hj
  unfold mj_nl at h
  simp only [hw] at h
  rcases w with x | q | x
  · trivial
  · trivial
  · exact h.elim
theorem mj_LR.st1 {nL : Nat} {ad : Nat → Nat} {ls : List (Option mj_V)} {real real' : Array Slot} {i : Nat} {v : mj_V} (h : mj_LR nL ad ls real) (hn : mj_nl ls i)
    (h' : lv_has real' nL ((i, mj_v ad v) :: (mj_ps ad ls).filter (fun q => !(q.1 == i) && !(q.1 + 1 == i && q.2.category == 2)))) : mj_LR nL ad (ls.set i (some v)) real' := by
  refine ⟨by rw [List.length_set]; exact h.1, h'.1, h'.2.1, fun j w hj => ?_⟩
  rw [List.getElem?_set] at hj
  by_cases hij : i = j
  · subst hij
    rw [if_pos rfl] at hj
    by_cases hl : i < ls.length
    · rw [if_pos hl] at hj
      cases hj
      exact h'.2.2 (i, _) List.mem_cons_self
    · rw [if_neg hl] at hj
      cases hj
  · rw [if_neg hij] at hj
    refine h'.2.2 (j, mj_v ad w) (List.mem_cons_of_mem _ (List.mem_filter.mpr ⟨mj_ps_mem.mpr ⟨w, hj, rfl⟩, ?_⟩))
    have h1 : (j == i) = false := by simpa using fun e : j = i => hij e.symm
    by_cases h2 : j + 1 = i
    · have h3 := mj_cat1 (ad := ad) (mj_nl_use hn h2 hj)
      simp [h1, h3]
    · have h4 : (j + 1 == i) = false := by simpa using h2
      simp [h1, h4]
theorem mj_LR.st2 {nL : Nat} {ad : Nat → Nat} {ls : List (Option mj_V)} {real real' : Array Slot} {i : Nat} {v : mj_V} (h : mj_LR nL ad ls real) (hn : mj_nl ls i)
    (h' : lv_has real' nL ((i, mj_v ad v) :: (mj_ps ad ls).filter (fun q => !(q.1 == i) && (!(q.1 == i + 1) && !(q.1 + 1 == i && q.2.category == 2))))) : mj_LR nL ad ((ls.set (i + 1) none).set i (some v)) real' := by
  refine ⟨by rw [List.length_set, List.length_set]; exact h.1, h'.1, h'.2.1, fun j w hj => ?_⟩
  rw [List.getElem?_set] at hj
  by_cases hij : i = j
  · subst hij
    rw [if_pos rfl] at hj
    by_cases hl : i < (ls.set (i + 1) none).length
    · rw [if_pos hl] at hj
      cases hj
      exact h'.2.2 (i, _) List.mem_cons_self
    · rw [if_neg hl] at hj
      cases hj
  · rw [if_neg hij, List.getElem?_set] at hj
    by_cases hi1 : i + 1 = j
    · rw [if_pos hi1] at hj
      by_cases hl : i + 1 < ls.length
      · rw [if_pos hl] at hj
        cases hj
      · rw [if_neg hl] at hj
        cases hj
    · rw [if_neg hi1] at hj
      refine h'.2.2 (j, mj_v ad w) (List.mem_cons_of_mem _ (List.mem_filter.mpr ⟨mj_ps_mem.mpr ⟨w, hj, rfl⟩, ?_⟩))
      have h1 : (j == i) = false := by simpa using fun e : j = i => hij e.symm
      have h5 : (j == i + 1) = false := by simpa using fun e : j = i + 1 => hi1 e.symm
      by_cases h2 : j + 1 = i
      · have h3 := mj_cat1 (ad := ad) (mj_nl_use hn h2 hj)
        simp [h1, h5, h3]
      · have h4 : (j + 1 == i) = false := by simpa using h2
        simp [h1, h5, h4]
theorem mj_okL_set {ls : List (Option mj_V)} (h : mj_okL ls) {i : Nat} {v : mj_V} (hv : mj_okV v) : mj_okL (ls.set i (some v)) := by
  intro j w hj
  rw [List.getElem?_set] at hj
  by_cases hij : i = j
  · rw [if_pos hij] at hj
    by_cases hl : i < ls.length
    · rw [if_pos hl] at hj
      cases hj
      exact hv
    · rw [if_neg hl] at hj
      cases hj
  · rw [if_neg hij] at hj
    exact h j w hj
theorem mj_okL_none {ls : List (Option mj_V)} (h : mj_okL ls) {i : Nat} : mj_okL (ls.set i none) := by
  intro j w hj
  rw [List.getElem?_set] at hj
  by_cases hij : i = j
  · rw [if_pos hij] at hj
    by_cases hl : i < ls.length
    · rw [if_pos hl] at hj
      cases hj
    · rw [if_neg hl] at hj
      cases hj
  · rw [if_neg hij] at hj
    exact h j w hj
theorem mj_okT_cons {v : mj_V} {st : List mj_V} (hv : mj_okV v) (h : mj_okT st) : mj_okT (v :: st) := by
  intro w hw
  rcases List.mem_cons.mp hw with e | e
  · rw [e]; exact hv
  · exact h w e
theorem mj_okT_hd {v : mj_V} {st : List mj_V} (h : mj_okT (v :: st)) : mj_okV v := h v List.mem_cons_self
theorem mj_okT_tl {v : mj_V} {st : List mj_V} (h : mj_okT (v :: st)) : mj_okT st := fun w hw => h w (List.mem_cons_of_mem _ hw)
theorem mj_okT_app {as st : List mj_V} (h : mj_okT (as ++ st)) : mj_okT as ∧ mj_okT st := ⟨fun w hw => h w (List.mem_append_left _ hw), fun w hw => h w (List.mem_append_right _ hw)⟩
