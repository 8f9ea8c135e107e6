/-! the first call on a fresh object: both answer alike -/
def p1_R (σ τ : mj_S) : Prop := σ 3 3 = 0 ∧ τ 0 2 = 0 ∧ σ 8 4 = 0 ∧ τ 0 44 = 0 ∧ mj_r (σ 2 0 - σ 2 9) ∧ ∀ w, sc_cnt σ w = sm_cnt τ w
theorem p1_step : lw_step 8 p1_R (fun _ _ => True) := by
  refine ⟨fun _ _ _ => trivial, ?_, ?_, ?_, ?_, ?_, ?_, ?_⟩
  · intro σ τ c h _ _ c0 c1
    obtain ⟨h1, h2, h3, h4, h5, h6⟩ := h
    refine sc_type (d := 6) (by omega) (by omega) ⟨c0, c1⟩ (fun _ => ⟨1, rfl, ?_⟩) (fun z => absurd z (by omega))
    exact sm_type (d := 7) (by omega) (by omega) ⟨c0, c1⟩ (fun _ => ⟨rfl, trivial⟩) (fun z => absurd z (by omega))
  · intro σ τ h _ _
    obtain ⟨h1, h2, h3, h4, h5, h6⟩ := h
    refine sc_clear (d := 6) ⟨_, rfl, ?_⟩
    exact sm_clear (d := 7) ⟨by rw [h1, h2], trivial⟩
  · intro σ τ x h _ _ hx x0 x1
    obtain ⟨h1, h2, h3, h4, h5, h6⟩ := h
    refine sc_run0 (d := 4) x0 x1 h1 (fun σ' => ⟨0, rfl, ?_⟩)
    exact sm_run0 (d := 5) h2 (fun _ τ' ht => ⟨rfl, ht, trivial⟩) (fun z => absurd z (by omega))
  · intro σ τ x h _ _ hx hout
    obtain ⟨h1, h2, h3, h4, h5, h6⟩ := h
    exact sm_run0 (d := 5) h2 (fun z => absurd hout z) (fun _ => ⟨⟨_, rfl⟩, mj_up_eq, trivial⟩)
  · intro σ τ x h _ _ hx x0 x1
    obtain ⟨h1, h2, h3, h4, h5, h6⟩ := h
    exact absurd x1 (by omega)
  · intro σ τ x h _ _ hx hout
    obtain ⟨h1, h2, h3, h4, h5, h6⟩ := h
    exact sm_output0 (d := 7) (by omega) (by omega) (fun a b => absurd b (by omega)) (fun _ => ⟨⟨_, rfl⟩, mj_up_eq, trivial⟩)
  · intro σ τ x h _ _ hx
    obtain ⟨h1, h2, h3, h4, h5, h6⟩ := h
    refine sc_count (d := 6) h5 ⟨_, rfl, ?_⟩
    exact sm_count (d := 7) ⟨by rw [h6], trivial⟩
theorem p1_init (x : Int) (σ τ : mj_S) (hx : mj_r x) (h1 : sy_SP sy_21 σ) (h2 : mk_SP (cl_sz x) sy_21 τ) : p1_R (fC (cl_sz x) σ) τ := by
  obtain ⟨a1, a2, a3⟩ := h1
  obtain ⟨b1, b2, b3, b4, b5⟩ := h2
  have z : ∀ k, k ≠ 0 → k ≠ 6 → τ 0 k = 0 := fun k g1 g2 => b5 0 k (by decide) (by decide) (by omega)
  have lo := cl_sz_lo x
  have hi := cl_sz_hi x
  refine ⟨rfl, z 2 (by decide) (by decide), rfl, z 44 (by decide) (by decide), ?_, fun w => ?_⟩
  · show mj_r (cl_sz x - cl_sz x)
    rw [Int.sub_self]
    exact mj_0
  · unfold sc_cnt sm_cnt
    rw [z 44 (by decide) (by decide), z 22 (by decide) (by decide), z 11 (by decide) (by decide), z 12 (by decide) (by decide), z 13 (by decide) (by decide), z 41 (by decide) (by decide), z 43 (by decide) (by decide), z 42 (by decide) (by decide), b2]
    rw [show fC (cl_sz x) σ 8 4 = 0 from rfl, show fC (cl_sz x) σ 6 6 = 0 from rfl, show fC (cl_sz x) σ 1 2 = σ 0 2 from rfl, show fC (cl_sz x) σ 2 8 = 0 from rfl, show fC (cl_sz x) σ 2 0 - fC (cl_sz x) σ 2 9 = 0 from Int.sub_self _, show fC (cl_sz x) σ 2 10 = 0 from rfl, show fC (cl_sz x) σ 7 12 = 0 from rfl, show fC (cl_sz x) σ 0 8 = 0 from rfl, show fC (cl_sz x) σ 7 13 = 0 from rfl, a2]
