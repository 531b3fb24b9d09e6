/-! BOTH SIDES REFUSE THE SAME INDICES -/
theorem idx_g {p : Int32} {n : Nat} (hn : n < 2147483648) : (p < 0 ∨ ¬ p < nI n) ↔ ¬ vp_in p n := by
  unfold vp_in
  rw [Decidable.not_not]
  constructor
  · rintro (h | h)
    · exact Or.inl h
    · by_cases c : p < 0
      · exact Or.inl c
      · refine Or.inr ?_
        have e := pr_toInt c
        have k : ¬ p.toInt < (nI n).toInt := fun z => h (lt_i.mpr z)
        rw [nI_toI hn] at k
        omega
  · rintro (h | h)
    · exact Or.inl h
    · by_cases c : p < 0
      · exact Or.inl c
      · refine Or.inr (fun z => ?_)
        have e := pr_toInt c
        have k := lt_i.mp z
        rw [nI_toI hn] at k
        omega
section IDX
variable {σ μ : pr_I} {p : Int32}
theorem idx_node (h : WX σ μ) : (p < 0 ∨ ¬ p < σ 0 6) ↔ ¬ vp_in p (mnn μ) := by
  have w := h.1.1.cr.w
  have e : mnn μ = ndn σ := by unfold mnn ndn; rw [show σ 0 6 = μ 1 6 from h.1.1.cr.rc.g (j := 6) (by decide)]
  rw [e, wI_nn w]
  exact idx_g (by have := wI_nn12 w; omega)
theorem idx_link (h : WX σ μ) : (p < 0 ∨ ¬ p < σ 1 8) ↔ ¬ vp_in p (mln μ) := by
  have w := h.1.1.cr.w
  have e : mln μ = lkn σ := by unfold mln lkn; rw [show σ 1 8 = μ 1 7 from h.1.1.cr.rc.g (j := 7) (by decide)]
  rw [e, wI_nl w]
  exact idx_g (by have := wI_nl24 w; omega)
theorem idx_req (h : WX σ μ) : (p < 0 ∨ ¬ p < σ 18 17) ↔ ¬ vp_in p (mrn μ) := by
  have w := h.1.1.cr.w
  have e : mrn μ = rqn σ := by unfold mrn rqn; rw [show σ 18 17 = μ 1 8 from h.1.1.cr.rc.g (j := 8) (by decide)]
  rw [e, wI_nr w]
  exact idx_g (by have := wI_nr4 w; omega)
theorem idx_tick (h : WX σ μ) : (p < 0 ∨ ¬ p < σ 9 8) ↔ ¬ vp_in p (mtn μ) := by
  have w := h.1.1.cr.w
  have e : mtn μ = tkn σ := by unfold mtn tkn; rw [show σ 9 8 = μ 1 9 from h.1.1.cr.rc.g (j := 9) (by decide)]
  rw [e, wI_n w]
  exact idx_g (by have := wI_n5 w; omega)
end IDX
