/-! SNAPSHOTS ON BOTH SIDES -/
/-- the reference with its row a in the place of row 1 -/
def mAt (μ : pr_I) (a : Nat) : pr_I := pr_row μ 1 (μ a)
theorem mAt_m {μ : pr_I} {a : Nat} (h : mI μ) (h1 : 1 ≤ a ∧ a < 6) : mI (mAt μ a) := h.rowA (fun j B q => h a j B (by rw [mB_rowA (a := a) (b := 1) h1 (by decide)]; exact q))
/-- a snapshot of the class against a row of the reference -/
def SNr (τ μ : pr_I) (ν : Nat → Int64) (a : Nat) : Prop := WX τ (mAt μ a) ∧ NM ν (μ a) (ndn τ)
section SNE
variable {σ τ μ μ' : pr_I} {ν ν' : Nat → Int64} {a : Nat}
theorem SNr.cong (h : SNr τ μ ν a) (hm : mI μ') (h1 : 1 ≤ a ∧ a < 6) (e : μ' a = μ a) : SNr τ μ' ν a := by
  refine ⟨h.1.cells (mAt_m hm h1) (fun j _ => ?_), by rw [e]; exact h.2⟩
  unfold mAt
  rw [pr_row_eq, pr_row_eq, e]
theorem WX.nn12 (h : WX σ μ) : ndn σ ≤ 12 := Nat.le_of_lt_succ (vp_in_lt (h.1.1.cr.w 0 6 13 rfl))
/-- what a copy of the world, and of row 1, is -/
theorem SNr.of (hx : WX σ μ) (nm : NM ν (μ 1) (ndn σ)) (hτ : wI τ) (hm : mI μ') (h1 : 1 ≤ a ∧ a < 6) (e : ∀ j, j < 5384 → μ' a j = μ 1 j) : SNr (wcp τ σ) μ' (cp_row ν ν' 12) a := by
  have lv := w_cp_lv (σ := τ) hx.1.1.cr.w
  refine ⟨WX.cp (hx.cells (mAt_m hm h1) (fun j hj => ?_)) hτ, ?_⟩
  · unfold mAt; rw [pr_row_eq]; exact e j hj
  · rw [lv.nn]
    exact (nm.cong hx.nn12 (fun i _ hi => e i (by omega))).cp hx.nn12 (fun k hk => cp_lt_l (by have := hx.nn12; omega))
/-- and back -/
theorem SNr.back (h : SNr τ μ ν a) (hσ : wI σ) (hm : mI μ') (e : ∀ j, j < 5384 → μ' 1 j = μ a j) : WX (wcp σ τ) μ' ∧ NM (cp_row ν ν' 12) (μ' 1) (ndn (wcp σ τ)) ∧ (wcp σ τ) 0 7 = μ a 0 := by
  have lv := w_cp_lv (σ := σ) h.1.1.1.cr.w
  refine ⟨WX.cp (h.1.cells hm (fun j hj => ?_)) hσ, ?_, ?_⟩
  · unfold mAt; rw [pr_row_eq]; exact e j hj
  · rw [lv.nn]
    exact (h.2.cong h.1.nn12 (fun i _ hi => e i (by omega))).cp h.1.nn12 (fun k hk => cp_lt_l (by have := h.1.nn12; omega))
  · rw [lv.1.2.1]
    have q : τ 0 7 = (mAt μ a) 1 0 := h.1.1.1.cr.rc.g (j := 0) (by decide)
    rw [q]; unfold mAt; rw [pr_row_eq]
theorem mI_s0 (h : mI μ) : mI (mf_saveSnapshot0 μ) := mI.upn (((mI.upn h rfl).cpA (by decide) (h.rwA (by decide)) (h.rwA (by decide)))) rfl
theorem mI_s1 (h : mI μ) : mI (mf_saveSnapshot1 μ) := mI.upn (((mI.upn h rfl).cpA (by decide) (h.rwA (by decide)) (h.rwA (by decide)))) rfl
theorem mI_r0 (h : mI μ) : mI (mf_restoreSnapshot0 μ) := by
  unfold mf_restoreSnapshot0
  split
  · exact mI.upn h rfl
  · exact (mI.upn h rfl).cpA (by decide) (h.rwA (by decide)) (h.rwA (by decide))
theorem mI_r1 (h : mI μ) : mI (mf_restoreSnapshot1 μ) := by
  unfold mf_restoreSnapshot1
  split
  · exact mI.upn h rfl
  · exact (mI.upn h rfl).cpA (by decide) (h.rwA (by decide)) (h.rwA (by decide))
theorem eq_save0 (hx : WX σ μ) (nm : NM ν (μ 1) (ndn σ)) (hτ : wI τ) : σ 0 7 = mf_saveSnapshot0_r μ ∧ WX σ (mf_saveSnapshot0 μ) ∧ SNr (wcp τ σ) (mf_saveSnapshot0 μ) (cp_row ν ν' 12) 4 ∧ (mf_saveSnapshot0 μ) 6 0 = 1 ∧ (mf_saveSnapshot0 μ) 6 1 = μ 6 1 ∧ (∀ o, o ≠ 0 → o ≠ 4 → o ≠ 6 → (mf_saveSnapshot0 μ) o = μ o) := by
  have fr : ∀ o, o ≠ 0 → o ≠ 4 → o ≠ 6 → (mf_saveSnapshot0 μ) o = μ o := fun o h0 h4 h6 => by
    unfold mf_saveSnapshot0
    rw [pr_up_ne h6, pr_row_ne h4, pr_up_ne h0]
  have hm := mI_s0 hx.1.1.cr.m
  refine ⟨hx.1.1.cr.rc.g (j := 0) (by decide), hx.cells hm (fun j _ => by rw [fr 1 (by decide) (by decide) (by decide)]), SNr.of hx nm hτ hm (by decide) (fun j hj => ?_), ?_, ?_, fr⟩
  · unfold mf_saveSnapshot0
    rw [pr_up_ne (by decide), pr_row_eq]; exact cp_lt hj
  · unfold mf_saveSnapshot0; rw [pr_upe]
  · unfold mf_saveSnapshot0; rw [pr_upk (by decide), pr_row_ne (by decide), pr_up_ne (by decide)]
theorem eq_save1 (hx : WX σ μ) (nm : NM ν (μ 1) (ndn σ)) (hτ : wI τ) : σ 0 7 = mf_saveSnapshot1_r μ ∧ WX σ (mf_saveSnapshot1 μ) ∧ SNr (wcp τ σ) (mf_saveSnapshot1 μ) (cp_row ν ν' 12) 5 ∧ (mf_saveSnapshot1 μ) 6 1 = 1 ∧ (mf_saveSnapshot1 μ) 6 0 = μ 6 0 ∧ (∀ o, o ≠ 0 → o ≠ 5 → o ≠ 6 → (mf_saveSnapshot1 μ) o = μ o) := by
  have fr : ∀ o, o ≠ 0 → o ≠ 5 → o ≠ 6 → (mf_saveSnapshot1 μ) o = μ o := fun o h0 h4 h6 => by
    unfold mf_saveSnapshot1
    rw [pr_up_ne h6, pr_row_ne h4, pr_up_ne h0]
  have hm := mI_s1 hx.1.1.cr.m
  refine ⟨hx.1.1.cr.rc.g (j := 0) (by decide), hx.cells hm (fun j _ => by rw [fr 1 (by decide) (by decide) (by decide)]), SNr.of hx nm hτ hm (by decide) (fun j hj => ?_), ?_, ?_, fr⟩
  · unfold mf_saveSnapshot1
    rw [pr_up_ne (by decide), pr_row_eq]; exact cp_lt hj
  · unfold mf_saveSnapshot1; rw [pr_upe]
  · unfold mf_saveSnapshot1; rw [pr_upk (by decide), pr_row_ne (by decide), pr_up_ne (by decide)]
theorem eq_restore0 (h : SNr τ μ ν 4) (hσ : wI σ) (hm : mI μ) (s : ¬ μ 6 0 = 0) : WX (wcp σ τ) (mf_restoreSnapshot0 μ) ∧ NM (cp_row ν ν' 12) ((mf_restoreSnapshot0 μ) 1) (ndn (wcp σ τ)) ∧ (wcp σ τ) 0 7 = mf_restoreSnapshot0_r μ := by
  have e : ∀ j, j < 5384 → (mf_restoreSnapshot0 μ) 1 j = μ 4 j := fun j hj => by
    unfold mf_restoreSnapshot0
    rw [if_neg s, pr_row_eq]; exact cp_lt hj
  obtain ⟨b1, b2, b3⟩ := h.back (ν' := ν') hσ (mI_r0 hm) e
  refine ⟨b1, b2, b3.trans ?_⟩
  unfold mf_restoreSnapshot0_r
  rw [if_neg s]; exact (cp_lt (by decide)).symm
theorem eq_restore1 (h : SNr τ μ ν 5) (hσ : wI σ) (hm : mI μ) (s : ¬ μ 6 1 = 0) : WX (wcp σ τ) (mf_restoreSnapshot1 μ) ∧ NM (cp_row ν ν' 12) ((mf_restoreSnapshot1 μ) 1) (ndn (wcp σ τ)) ∧ (wcp σ τ) 0 7 = mf_restoreSnapshot1_r μ := by
  have e : ∀ j, j < 5384 → (mf_restoreSnapshot1 μ) 1 j = μ 5 j := fun j hj => by
    unfold mf_restoreSnapshot1
    rw [if_neg s, pr_row_eq]; exact cp_lt hj
  obtain ⟨b1, b2, b3⟩ := h.back (ν' := ν') hσ (mI_r1 hm) e
  refine ⟨b1, b2, b3.trans ?_⟩
  unfold mf_restoreSnapshot1_r
  rw [if_neg s]; exact (cp_lt (by decide)).symm
theorem eq_restoreN (hx : WX σ μ) : (μ 6 0 = 0 → mf_restoreSnapshot0_r μ = -1 ∧ WX σ (mf_restoreSnapshot0 μ)) ∧ (μ 6 1 = 0 → mf_restoreSnapshot1_r μ = -1 ∧ WX σ (mf_restoreSnapshot1 μ)) := by
  refine ⟨fun s => ⟨if_pos s, hx.cells (mI_r0 hx.1.1.cr.m) (fun j _ => ?_)⟩, fun s => ⟨if_pos s, hx.cells (mI_r1 hx.1.1.cr.m) (fun j _ => ?_)⟩⟩
  · unfold mf_restoreSnapshot0; rw [if_pos s, pr_upv (by decide)]
  · unfold mf_restoreSnapshot1; rw [if_pos s, pr_upv (by decide)]
end SNE
