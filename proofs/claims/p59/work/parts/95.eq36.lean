/-! THE FACE, CALL BY CALL: what is read -/
section READ
variable {σ μ : pr_I}
theorem eq_nodeCount (h : WT σ μ) : fx_nodeCount_r σ = mf_nodeCount_r μ := by
  show nI (ndn σ) = μ 1 6
  rw [← h.1.cr.rc.g (j := 6) (by decide)]
  exact (vp_nI (h.1.cr.w 0 6 13 rfl) (by decide)).symm
theorem eq_linkCount (h : WT σ μ) : fx_linkCount_r σ = mf_linkCount_r μ := by
  show nI (lkn σ) = μ 1 7
  rw [← h.1.cr.rc.g (j := 7) (by decide)]
  exact (wI_nl h.1.cr.w).symm
theorem eq_requestCount (h : WT σ μ) : fx_requestCount_r σ = mf_requestCount_r μ := by
  show nI (rqn σ) = μ 1 8
  rw [← h.1.cr.rc.g (j := 8) (by decide)]
  exact (wI_nr h.1.cr.w).symm
theorem eq_ticketCount (h : WT σ μ) : fx_ticketCount_r σ = mf_ticketCount_r μ := by
  show nI (tkn σ) = μ 1 9
  rw [← h.1.cr.rc.g (j := 9) (by decide)]
  exact (wI_n h.1.cr.w).symm
theorem eq_time (h : WT σ μ) : fx_time_r σ = mf_time_r μ := h.1.cr.now
theorem eq_setting (h : WT σ μ) {c : Nat} (hc : c < 5) : fx_setting_r σ c = mf_setting_r μ c := h.1.cr.set hc
theorem eq_linkValue (h : WT σ μ) {k c : Nat} (hk : k < lkn σ) (hc : c ≤ 8) : fx_linkValue_r σ k c = mf_linkValue_r μ k c := by
  have h24 := wI_nl24 h.1.cr.w
  have ep : σ 7 k = m_prom_r (pr_up μ 0 6 (0 : Int32)) (mtn μ) (nI k) := by
    unfold m_prom_r; rw [h.1.cr.tn]; exact h.1.mu.cr.pr hk
  have e2 : σ 4 k = (pr_up μ 0 6 (0 : Int32)) 1 (96 + 7 * k + 2) := h.1.mu.cr.link hk (c := 2) (by decide)
  rcases (by omega : c = 0 ∨ c = 1 ∨ c = 2 ∨ c = 3 ∨ c = 4 ∨ c = 5 ∨ c = 6 ∨ c = 7 ∨ c = 8) with rfl | rfl | rfl | rfl | rfl | rfl | rfl | rfl | rfl
  · exact h.1.cr.link hk (c := 0) (by decide)
  · exact h.1.cr.link hk (c := 1) (by decide)
  · exact h.1.cr.link hk (c := 2) (by decide)
  · exact h.1.cr.link hk (c := 3) (by decide)
  · exact h.1.cr.link hk (c := 4) (by decide)
  · exact ep
  · show lk_av σ k = m_av_r (pr_up μ 0 6 (0 : Int32)) (mtn μ) k
    unfold lk_av m_av_r
    rw [ep, e2]
  · exact h.1.cr.fail hk
  · have e := h.1.up k hk
    show (if lk_up σ k = 0 then (0 : Int32) else 1) = μ 1 (96 + 7 * k + 5)
    rw [← e]
    rcases up_01 (σ := σ) (k := k) (by omega) with q | q
    · rw [if_pos q, q]
    · rw [if_neg (by rw [q]; decide), q]
theorem eq_requestValue (h : WT σ μ) {k c : Nat} (hk : k < rqn σ) (hc : c ≤ 12) : fx_requestValue_r σ k c = mf_requestValue_r μ k c := by
  have e : ∀ c, c < 15 → σ (19 + c) k = μ 1 (264 + 28 * k + c) := fun c hc => h.1.cr.req hk hc
  rcases (by omega : c = 0 ∨ c = 1 ∨ c = 2 ∨ c = 3 ∨ c = 4 ∨ c = 5 ∨ c = 6 ∨ c = 7 ∨ c = 8 ∨ c = 9 ∨ c = 10 ∨ c = 11 ∨ c = 12) with rfl | rfl | rfl | rfl | rfl | rfl | rfl | rfl | rfl | rfl | rfl | rfl | rfl
  · exact e 0 (by decide)
  · exact e 1 (by decide)
  · exact e 2 (by decide)
  · exact e 3 (by decide)
  · exact e 4 (by decide)
  · exact e 5 (by decide)
  · exact e 6 (by decide)
  · exact e 7 (by decide)
  · exact e 8 (by decide)
  · exact e 9 (by decide)
  · exact e 10 (by decide)
  · exact e 11 (by decide)
  · exact e 12 (by decide)
theorem eq_ticketValue (h : WT σ μ) {k c : Nat} (hk : k < tkn σ) (hc : c ≤ 7) : fx_ticketValue_r σ k c = mf_ticketValue_r μ k c := by
  have e : ∀ c, c < 8 → σ (10 + c) k = μ 1 (1384 + 8 * k + c) := fun c hc => h.1.cr.tick hk hc
  rcases (by omega : c = 0 ∨ c = 1 ∨ c = 2 ∨ c = 3 ∨ c = 4 ∨ c = 5 ∨ c = 6 ∨ c = 7) with rfl | rfl | rfl | rfl | rfl | rfl | rfl | rfl
  · exact e 0 (by decide)
  · exact e 1 (by decide)
  · exact e 2 (by decide)
  · exact e 3 (by decide)
  · exact e 4 (by decide)
  · exact e 5 (by decide)
  · exact e 6 (by decide)
  · exact e 7 (by decide)
theorem eq_pathLength (h : WT σ μ) {k : Nat} (hk : k < rqn σ) : fx_pathLength_r σ k = mf_pathLength_r μ k := h.1.cr.req hk (c := 13) (by decide)
theorem eq_placeOf (h : WT σ μ) {k : Nat} (hk : k < rqn σ) : fx_placeOf_r σ k = mf_placeOf_r μ k := by
  have e4 : σ 23 k = μ 1 (264 + 28 * k + 4) := h.1.cr.req hk (c := 4) (by decide)
  have e14 : σ 33 k = μ 1 (264 + 28 * k + 14) := h.1.cr.req hk (c := 14) (by decide)
  have v := (h.1.sr hk).1
  have ev : σ 23 k = nI (σ 23 k).toNatClampNeg := vp_nI v (by decide)
  have lv := vp_in_lt v
  unfold fx_placeOf_r mf_placeOf_r
  rw [← e4, ← e14]
  by_cases c0 : σ 23 k = 0
  · rw [if_pos c0, c0, if_neg (by decide)]
  · rw [if_neg c0]
    by_cases c1 : σ 23 k = 1
    · rw [if_pos c1, c1, if_neg (by decide)]
    · rw [if_neg c1, if_pos]
      rw [ev]
      refine (nI_ltI (a := 1) (by decide) (by omega)).mpr ?_
      have n0 : (σ 23 k).toNatClampNeg ≠ 0 := fun z => c0 (by rw [ev, z]; rfl)
      have n1 : (σ 23 k).toNatClampNeg ≠ 1 := fun z => c1 (by rw [ev, z]; rfl)
      omega
theorem cnt_eq (h : Cr σ μ) {nr : Nat} {s : Int32} : ∀ k, k ≤ rqn σ → rq_cnt_it4 σ nr s k = m_many_it4 (pr_up μ 0 6 (0 : Int32)) s k
  | 0, _ => rfl
  | k + 1, hk => by
    have e4 : σ 23 k = μ 1 (264 + 28 * k + 4) := h.req hk (c := 4) (by decide)
    rw [rq_cnt_it4, m_many_it4, cnt_eq h k (by omega), pr_upv (show (1 : Nat) ≠ 0 by decide), ← e4]
theorem eq_inState (h : WT σ μ) {c : Nat} : fx_inState_r σ c = mf_inState_r μ c := by
  unfold fx_inState_r mf_inState_r rq_cnt_r m_many_r
  rw [h.1.mu.cr.rn]
  exact cnt_eq h.1.cr (rqn σ) (Nat.le_refl _)
theorem paid_eq (h : Cr σ μ) {nr : Nat} : ∀ k, k ≤ rqn σ → rq_tot_paid_it5 σ nr k = m_sum_it5 (pr_up μ 0 6 (0 : Int32)) 7 k
  | 0, _ => rfl
  | k + 1, hk => by
    have e : σ 26 k = μ 1 (264 + 28 * k + 7) := h.req hk (c := 7) (by decide)
    rw [rq_tot_paid_it5, m_sum_it5, paid_eq h k (by omega), pr_upv (show (1 : Nat) ≠ 0 by decide), ← e]
theorem refd_eq (h : Cr σ μ) {nr : Nat} : ∀ k, k ≤ rqn σ → rq_tot_ref_it5 σ nr k = m_sum_it5 (pr_up μ 0 6 (0 : Int32)) 8 k
  | 0, _ => rfl
  | k + 1, hk => by
    have e : σ 27 k = μ 1 (264 + 28 * k + 8) := h.req hk (c := 8) (by decide)
    rw [rq_tot_ref_it5, m_sum_it5, refd_eq h k (by omega), pr_upv (show (1 : Nat) ≠ 0 by decide), ← e]
theorem eq_refunds (h : WT σ μ) : fx_refunds_r σ = mf_refunds_r μ := by
  unfold fx_refunds_r mf_refunds_r rq_tot_ref_r m_sum_r
  rw [h.1.mu.cr.rn]
  exact refd_eq h.1.cr (rqn σ) (Nat.le_refl _)
theorem eq_revenue (h : WT σ μ) : fx_revenue_r σ = mf_revenue_r μ := by
  unfold fx_revenue_r mf_revenue_r w_rev_r rq_tot_paid_r rq_tot_ref_r m_sum_r
  rw [h.1.mu.cr.rn, paid_eq h.1.cr (rqn σ) (Nat.le_refl _), refd_eq h.1.cr (rqn σ) (Nat.le_refl _)]
theorem WT.ne14 (h : WT σ μ) : ∀ t, t < tkn σ → ¬ σ 14 t = -1 := fun t ht z => by
  have := (h.2.1 t ht).1; rw [z, m1_i] at this; omega
theorem eq_nextExpiry (h : WT σ μ) : fx_nextExpiry_r σ = mf_nextExpiry_r μ := by
  unfold fx_nextExpiry_r mf_nextExpiry_r m_nx_r
  rw [h.1.mu.cr.tn]
  exact fe_eq h.1.mu.cr (tkn σ) (Nat.le_refl _) h.ne14
theorem eq_nextEvent (h : WT σ μ) : fx_nextEvent_r σ = mf_nextEvent_r μ := by
  unfold fx_nextEvent_r mf_nextEvent_r w_next_r m_ne_r
  rw [h.1.mu.cr.rn]
  exact next_eq h.1.mu h.ne14 rfl (rqn σ) (Nat.le_refl _)
end READ
