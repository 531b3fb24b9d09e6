section TRL
variable {σ μ : pr_I} {r : Nat}
theorem it_0 (hr : r < 40) {k : Nat} : (w_tr_it2 σ r k) 0 = σ 0 := fr_w_tr_it2 (by decide) (by omega) hr
theorem it_18 (hr : r < 40) {k : Nat} : (w_tr_it2 σ r k) 18 = σ 18 := fr_w_tr_it2 (by decide) (by omega) hr
/-- turn by turn, both the same -/
theorem tr_lock (h : Wd σ μ) (hr : r < rqn σ) : ∀ k, Wd (w_tr_it2 σ r k) (m_tr_it0 μ r k) ∧ ((m_tr_it0 μ r k) 1 (264 + 28 * r + 6) = μ 1 0 → m_t1ok (m_tr_it0 μ r k) r) ∧ ((w_tr_it2 σ r k) 25 r = σ 0 7 ↔ (m_tr_it0 μ r k) 1 (264 + 28 * r + 6) = μ 1 0) := by
  have h4 := wI_nr4 h.cr.w
  have base : ∀ k, Wd (w_tr_it2 σ r k) (m_tr_it0 μ r k) → Wd (w_tr_it2 σ r k) (m_tr_it0 μ r k) ∧ ((m_tr_it0 μ r k) 1 (264 + 28 * r + 6) = μ 1 0 → m_t1ok (m_tr_it0 μ r k) r) ∧ ((w_tr_it2 σ r k) 25 r = σ 0 7 ↔ (m_tr_it0 μ r k) 1 (264 + 28 * r + 6) = μ 1 0) := fun k hk => by
    have rk : r < rqn (w_tr_it2 σ r k) := by unfold rqn; rw [it_18 (by omega)]; exact hr
    have e6 : (w_tr_it2 σ r k) 25 r = (m_tr_it0 μ r k) 1 (264 + 28 * r + 6) := hk.cr.req rk (c := 6) (by decide)
    have en := h.cr.now
    refine ⟨hk, fun z => ?_, by rw [e6, en]⟩
    exact (hk.turn rk (by rw [it_0 (by omega), e6, z, en])).2
  intro k
  induction k with
  | zero => exact base 0 h
  | succ k ih =>
    refine base (k + 1) ?_
    have rk : r < rqn (w_tr_it2 σ r k) := by unfold rqn; rw [it_18 (by omega)]; exact hr
    rw [w_it_s, m_it_s]
    by_cases c : (w_tr_it2 σ r k) 25 r = σ 0 7
    · rw [if_pos c, if_pos (ih.2.2.mp c)]
      exact (ih.1.turn rk (by rw [it_0 (by omega)]; exact c)).1
    · rw [if_neg c, if_neg (fun z => c (ih.2.2.mpr z))]
      exact ih.1
theorem tr_done (h : Wd σ μ) (hr : r < rqn σ) : ¬ (w_tr_it2 σ r 2) 25 r = σ 0 7 := by
  have h4 := wI_nr4 h.cr.w
  have near : ∀ k, ¬ (w_tr_it2 σ r (k + 1)) 25 r = σ 0 7 ∨ Near (w_tr_it2 σ r (k + 1)) r := fun k => by
    have rk : r < rqn (w_tr_it2 σ r k) := by unfold rqn; rw [it_18 (by omega)]; exact hr
    rw [w_it_s]
    by_cases c : (w_tr_it2 σ r k) 25 r = σ 0 7
    · rw [if_pos c]
      have t := (t1_near (tr_lock h hr k).1 rk (by rw [it_0 (by omega)]; exact c)).1
      rw [it_0 (by omega)] at t; exact t
    · rw [if_neg c]; exact Or.inl c
  have rk : r < rqn (w_tr_it2 σ r (0 + 1)) := by unfold rqn; rw [it_18 (by omega)]; exact hr
  show ¬ (w_tr_it2 σ r ((0 + 1) + 1)) 25 r = σ 0 7
  rw [w_it_s]
  by_cases c : (w_tr_it2 σ r (0 + 1)) 25 r = σ 0 7
  · rw [if_pos c]
    have t := (t1_near (tr_lock h hr (0 + 1)).1 rk (by rw [it_0 (by omega)]; exact c)).2 ((near 0).resolve_left (fun q => q c))
    rw [it_0 (by omega)] at t; exact t
  · rw [if_neg c]; exact c
theorem tr_stay (h : Wd σ μ) (hr : r < rqn σ) {k : Nat} (hk : 2 ≤ k) : w_tr_it2 σ r k = w_tr_it2 σ r 2 ∧ m_tr_it0 μ r k = m_tr_it0 μ r 2 := by
  have d := tr_done h hr
  have a := st_w_tr_it2_21 d (k - 2)
  have b := st_m_tr_it0_13 (fun z => d ((tr_lock h hr 2).2.2.mpr z)) (k - 2)
  rw [show 2 + (k - 2) = k by omega] at a b
  exact ⟨a, b⟩
theorem Wd.tr (h : Wd σ μ) (hr : r < rqn σ) : Wd (w_tr σ r) (m_tr μ r) ∧ m_tr_ok μ r ∧ ¬ (w_tr σ r) 25 r = σ 0 7 := by
  have w := (tr_stay h hr (k := sl 1000000) (by rw [sl_eq]; decide)).1
  have m := (tr_stay h hr (k := sl 5) (by rw [sl_eq]; decide)).2
  have L := tr_lock h hr
  unfold w_tr m_tr
  rw [w, m]
  refine ⟨(L 2).1, ⟨fun k a b => ((L k).2.1 a).1 b, fun k a b c => ((L k).2.1 a).2.1 b c, fun k a b c => ((L k).2.1 a).2.2 b c, ?_⟩, tr_done h hr⟩
  unfold m_tr_it0_e
  rw [m]
  exact if_neg (fun z => tr_done h hr ((L 2).2.2.mpr z))
/-- the first turn aside -/
theorem it_shift (hr : r < 40) (hd : σ 25 r = σ 0 7) (h0 : (w_t1 σ r) 0 7 = σ 0 7) : ∀ k, w_tr_it2 σ r (k + 1) = w_tr_it2 (w_t1 σ r) r k
  | 0 => by
    rw [w_it_s]; exact if_pos hd
  | k + 1 => by
    have ih := it_shift hr hd h0 k
    rw [w_it_s, ih, w_it_s, h0]
end TRL
