theorem set_op {σ R : pr_I} {r : Nat} {s v : Int32} (hs : ¬ s = 2) (f : ∀ o, o ≠ 7 → o ≠ 15 → o ≠ 17 → o ≠ 27 → R o = σ o) (h15 : ∀ t, R 15 t = 0 → σ 15 t = 0) : Opr σ (pr_up (w_settle R r s) 30 r v) r ∧ Opx σ (pr_up (w_settle R r s) 30 r v) r := by
  have k : ∀ o, o ≠ 30 → o ≠ 23 → o ≠ 25 → pr_up (w_settle R r s) 30 r v o = R o := fun o a b c => by rw [pr_up_ne a, settle_c b c]
  have kk : ∀ o, o ≠ 30 → o ≠ 23 → o ≠ 25 → o ≠ 7 → o ≠ 15 → o ≠ 17 → o ≠ 27 → pr_up (w_settle R r s) 30 r v o = σ o := fun o a b c d e g i => (k o a b c).trans (f o d e g i)
  have c23 : ¬ (pr_up (w_settle R r s) 30 r v) 23 r = 2 := by
    unfold w_settle
    rw [pr_upv (by decide), pr_upv (by decide), pr_upe]; exact hs
  have k0 := kk 0 (by decide) (by decide) (by decide) (by decide) (by decide) (by decide) (by decide)
  have k9 := kk 9 (by decide) (by decide) (by decide) (by decide) (by decide) (by decide) (by decide)
  refine ⟨⟨k0, kk 18 (by decide) (by decide) (by decide) (by decide) (by decide) (by decide) (by decide), fun t ht => Or.inl ⟨?_, ?_, fun z => ?_⟩, fun r' hr' => ⟨?_, ?_, ?_⟩, fun z => absurd z c23, Or.inl ?_⟩, k0, kk 22 (by decide) (by decide) (by decide) (by decide) (by decide) (by decide) (by decide), fun t ht => Or.inl ⟨?_, ?_⟩, fun z => absurd z c23⟩
  · rw [tkn_c k9] at ht; exact ht
  · rw [kk 14 (by decide) (by decide) (by decide) (by decide) (by decide) (by decide) (by decide)]
  · rw [k 15 (by decide) (by decide) (by decide)] at z; exact h15 t z
  · unfold w_settle
    rw [pr_upv (by decide), pr_upk hr', pr_upv (by decide), f 25 (by decide) (by decide) (by decide) (by decide)]
  · unfold w_settle
    rw [pr_upv (by decide), pr_upv (by decide), pr_upk hr', f 23 (by decide) (by decide) (by decide) (by decide)]
  · rw [pr_upk hr', settle_c (by decide) (by decide), f 30 (by decide) (by decide) (by decide) (by decide)]
  · unfold w_settle
    rw [pr_upv (by decide), pr_upe]
  · rw [tkn_c k9] at ht; exact ht
  · rw [kk 12 (by decide) (by decide) (by decide) (by decide) (by decide) (by decide) (by decide)]
noncomputable def can_a (σ : pr_I) (r : Nat) : Int32 := (if (if (σ 23 r) = (2 : Int32) then (1 : Int32) else (0 : Int32)) = 0 then (1 : Int32) else ((σ 30 r) - (σ 0 7)))
noncomputable def can_b (σ : pr_I) (r : Nat) : Int32 := (if (if (σ 23 r) = (2 : Int32) then (1 : Int32) else (0 : Int32)) = 0 then (1 : Int32) else (σ 22 r))
theorem can_ab {σ : pr_I} {r : Nat} : (σ 23 r = 2 ∧ can_a σ r = σ 30 r - σ 0 7 ∧ can_b σ r = σ 22 r) ∨ (¬ σ 23 r = 2 ∧ can_a σ r = 1 ∧ can_b σ r = 1) := by
  unfold can_a can_b
  by_cases c : σ 23 r = 2
  · rw [if_pos c, if_neg (show ¬ (1 : Int32) = 0 by decide), if_neg (show ¬ (1 : Int32) = 0 by decide)]
    exact Or.inl ⟨c, rfl, rfl⟩
  · rw [if_neg c, if_pos rfl, if_pos rfl]
    exact Or.inr ⟨c, rfl, rfl⟩
theorem can_w {σ : pr_I} {n r : Nat} : w_cancel σ n r = pr_up (w_settle (w_ra_it6 σ n (nI r) (can_a σ r) (can_b σ r) (σ 119 4) n).1 r 5) 30 r (σ 0 7) ∧ w_cancel_r σ n r = (w_ra_it6 σ n (nI r) (can_a σ r) (can_b σ r) (σ 119 4) n).2 := by
  have e1 : w_cancel σ n r = (w_ra_it6 (pr_up (pr_up (pr_up σ 23 r 5) 25 r (-1)) 30 r (σ 0 7)) n (nI r) (can_a σ r) (can_b σ r) (σ 119 4) n).1 := rfl
  have e2 : w_cancel_r σ n r = (w_ra_it6 (pr_up (pr_up (pr_up σ 23 r 5) 25 r (-1)) 30 r (σ 0 7)) n (nI r) (can_a σ r) (can_b σ r) (σ 119 4) n).2 := rfl
  rw [e1, e2, ra_comm (o := 30) (by decide), ra_comm (o := 25) (by decide), ra_comm (o := 23) (by decide)]
  exact ⟨rfl, rfl⟩
theorem Wd.cancel {σ μ : pr_I} (h : WT σ μ) (tx : Tx σ) {r : Nat} (hr : r < rqn σ) : WT (w_cancel σ (tkn σ) r) (m_st (mf_cancel_it45 μ r (mtn μ)).1 r 5) ∧ Tx (w_cancel σ (tkn σ) r) ∧ w_cancel_r σ (tkn σ) r = (mf_cancel_it45 μ r (mtn μ)).2 := by
  have h4 := wI_nr4 h.1.cr.w
  have t0 := h.1.ti.1
  obtain ⟨w1, w2⟩ := can_w (σ := σ) (n := tkn σ) (r := r)
  have C := can_loop h tx (n := tkn σ) hr can_ab (tkn σ) (Nat.le_refl _)
  have A := can_2 h tx (n := tkn σ) hr can_ab (tkn σ) (Nat.le_refl _)
  have f : ∀ o, o ≠ 7 → o ≠ 15 → o ≠ 17 → o ≠ 27 → (w_ra_it6 σ (tkn σ) (nI r) (can_a σ r) (can_b σ r) (σ 119 4) (tkn σ)).1 o = σ o := fun o a b c d => fr_w_ra_it6 (by simp only [List.mem_cons, List.not_mem_nil, or_false, forall_eq_or_imp, forall_eq]; omega)
  have o15 : ∀ t, (w_ra_it6 σ (tkn σ) (nI r) (can_a σ r) (can_b σ r) (σ 119 4) (tkn σ)).1 15 t = 0 → σ 15 t = 0 := fun t => ra15 (tkn σ)
  rw [w1, w2, h.1.cr.tn]
  generalize (w_ra_it6 σ (tkn σ) (nI r) (can_a σ r) (can_b σ r) (σ 119 4) (tkn σ)) = R at *
  have W1 : Wd R.1 (mf_cancel_it45 μ r (tkn σ)).1 := by
    refine h.1.keep C (fun o ho => ?_) (fun r hr => f _ (by omega) (by omega) (by omega) (by omega)) (fun j hj => kp_can h.1.cr.m hj _ (wI_n5 h.1.cr.w)) (fun r' hr' => ?_)
    · simp only [List.mem_cons, List.not_mem_nil, or_false] at ho
      exact f o (by omega) (by omega) (by omega) (by omega)
    · exact (h.1.sr hr').of (f _ (by omega) (by omega) (by omega) (by omega)) (f _ (by omega) (by omega) (by omega) (by omega)) (f _ (by omega) (by omega) (by omega) (by omega)) (f _ (by omega) (by omega) (by omega) (by omega)) (by rw [f _ (by omega) (by omega) (by omega) (by omega)]) (f _ (by omega) (by omega) (by omega) (by omega)) (f _ (by omega) (by omega) (by omega) (by omega)) (by rw [f _ (by omega) (by omega) (by omega) (by omega)]) (by rw [f _ (by omega) (by omega) (by omega) (by omega)])
  have rF : r < rqn R.1 := by rw [rqn_c (f 18 (by decide) (by decide) (by decide) (by decide))]; exact hr
  have U := W1.use rF (s := 5) (nI_vin (k := 5) (by decide) (by decide)) (by decide)
  have rU : r < rqn (w_settle R.1 r 5) := by rw [rqn_c (settle_c (by decide) (by decide))]; exact rF
  have V := U.u1 (c := 11) (v := σ 0 7) rU (by decide)
  have en : (mf_cancel_it45 μ r (tkn σ)).1 1 0 = σ 0 7 := by rw [← W1.cr.now, f 0 (by decide) (by decide) (by decide) (by decide)]
  obtain ⟨p1, p2⟩ := set_op (r := r) (s := 5) (v := σ 0 7) (by decide) f o15
  unfold m_st
  rw [en]
  exact ⟨⟨V, h.2.opr p1 t0⟩, tx.op p1 p2, A⟩
theorem eq_cancel {σ μ : pr_I} (h : WT σ μ) (tx : Tx σ) {k : Nat} (hk : k < rqn σ) : WT (fx_cancel σ k) (mf_cancel μ k) ∧ Tx (fx_cancel σ k) ∧ fx_cancel_r σ k = mf_cancel_r μ k := by
  have e4 : σ 23 k = μ 1 (264 + 28 * k + 4) := h.1.cr.req hk (c := 4) (by decide)
  have C := Wd.cancel h tx hk
  unfold fx_cancel fx_cancel_r mf_cancel mf_cancel_r rq_way_r
  rw [← e4]
  by_cases c0 : σ 23 k = 0
  · simp only [if_pos c0, if_neg (show ¬ (1 : Int32) = 0 by decide)]
    exact C
  · by_cases c1 : σ 23 k = 1
    · simp only [if_neg c0, if_pos c1, if_neg (show ¬ (1 : Int32) = 0 by decide)]
      exact C
    · by_cases c2 : σ 23 k = 2
      · have c7 : ¬ σ 23 k = 7 := by rw [c2]; decide
        simp only [if_neg c0, if_neg c1, if_neg c7, if_pos c2, if_neg (show ¬ (1 : Int32) = 0 by decide), if_true]
        exact C
      · by_cases c7 : σ 23 k = 7
        · simp only [if_neg c0, if_neg c1, if_neg c2, if_pos c7, if_neg (show ¬ (1 : Int32) = 0 by decide)]
          exact C
        · simp only [if_neg c0, if_neg c1, if_neg c2, if_neg c7, if_true]
          exact ⟨h.mu, tx, trivial⟩
