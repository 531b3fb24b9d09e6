section RCH2
variable {σ μ : pr_I}
theorem re82_k {μ1 : pr_I} {s k k' : Nat} {u x : Int32} : ∀ j, mf_reachable_it82 μ μ1 s u k x j = mf_reachable_it82 μ μ1 s u k' x j
  | 0 => rfl
  | j + 1 => by rw [mf_reachable_it82, mf_reachable_it82, re82_k (k := k) (k' := k') j]
theorem re67_s {s k : Nat} {u : Int32} : mf_reachable_it67 μ s u (k + 1) = mf_reachable_it82 μ (pr_up μ 0 6 (0 : Int32)) s u 0 (mf_reachable_it67 μ s u k) (mln μ) := by
  rw [mf_reachable_it67]; exact re82_k _
theorem re11_s {nl : Nat} {s u : Int32} {k : Nat} : pt_reach_it11 σ nl s u (k + 1) = (if ((pt_reach_it11 σ nl s u k).1) = ((pt_reach_it11 σ nl s u k).2) then (pt_reach_it11 σ nl s u k) else ((pt_reach_it32 σ σ nl s u k ((pt_reach_it11 σ nl s u k).1) ((pt_reach_it11 σ nl s u k).1) nl), ((pt_reach_it11 σ nl s u k).1))) := by
  rw [pt_reach_it11]
theorem sh_ne0 {s : Nat} (hs : s < 32) : ¬ (1 : Int32) <<< (nI s &&& 31) = 0 := fun e => by
  have := congrArg (fun z => bit z s) e
  simp only [bit_sh1 hs hs, bit_0] at this
  simp at this
/-- the class' rounds are the reference's, as many as are asked -/
theorem reach_rounds {nn : Nat} {w : Int32} {s : Nat} {u : Int32} (B : BL σ μ (mln μ) nn) (hu : HU w (m_lw_r (pr_up μ 0 6 (0 : Int32)) (mtn μ) (mln μ) u) (mln μ)) (hs : s < 32) : ∀ k, (pt_reach_it11 σ (mln μ) (nI s) w k).1 = mf_reachable_it67 μ s u k ∧ (((pt_reach_it11 σ (mln μ) (nI s) w k).1 = (pt_reach_it11 σ (mln μ) (nI s) w k).2) → mf_reachable_it67 μ s u (k + 1) = mf_reachable_it67 μ s u k)
  | 0 => by
    refine ⟨rfl, fun e => ?_⟩
    have e2 : (1 : Int32) <<< (nI s &&& 31) = 0 := e
    exact absurd e2 (sh_ne0 hs)
  | k + 1 => by
    obtain ⟨i1, i2⟩ := reach_rounds B hu hs k
    rw [re11_s]
    by_cases c : (pt_reach_it11 σ (mln μ) (nI s) w k).1 = (pt_reach_it11 σ (mln μ) (nI s) w k).2
    · have f := i2 c
      rw [if_pos c]
      refine ⟨i1.trans f.symm, fun _ => ?_⟩
      rw [re67_s, f, ← re67_s]
      exact f
    · rw [if_neg c]
      have e : pt_reach_it32 σ σ (mln μ) (nI s) w k (pt_reach_it11 σ (mln μ) (nI s) w k).1 (pt_reach_it11 σ (mln μ) (nI s) w k).1 (mln μ) = mf_reachable_it67 μ s u (k + 1) := by
        rw [re67_s, ← i1]
        exact reach_in B hu rfl (mln μ) (Nat.le_refl _)
      refine ⟨e, fun z => ?_⟩
      have z2 : pt_reach_it32 σ σ (mln μ) (nI s) w k (pt_reach_it11 σ (mln μ) (nI s) w k).1 (pt_reach_it11 σ (mln μ) (nI s) w k).1 (mln μ) = (pt_reach_it11 σ (mln μ) (nI s) w k).1 := z
      rw [e, i1] at z2
      rw [re67_s, z2, ← re67_s]
      exact z2
/-- once a round adds nothing none does -/
theorem re67_fix {s : Nat} {u : Int32} {k : Nat} (h : mf_reachable_it67 μ s u (k + 1) = mf_reachable_it67 μ s u k) : ∀ j, mf_reachable_it67 μ s u (k + j) = mf_reachable_it67 μ s u k
  | 0 => rfl
  | j + 1 => by
    have ih := re67_fix h j
    rw [show k + (j + 1) = (k + j) + 1 from rfl, re67_s, ih, ← re67_s]
    exact h
end RCH2
