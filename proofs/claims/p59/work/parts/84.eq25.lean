/-! EXPIRIES AND ENDS ON BOTH SIDES -/
theorem Wd.rel {σ μ : pr_I} (h : Wd σ μ) {t : Nat} (ht : t < tkn σ) (hk : ¬ tk_kp σ t = 0) {s f : Int32} (h0 : ¬ s = 0) (h1 : ¬ s = 1) : Wd (w_rel σ t s f) (m_gb (pr_up μ 1 (1384 + 8 * t + 5) s) t f) := by
  have h4 := wI_nr4 h.cr.w
  have h5 := wI_n5 h.cr.w
  have k : ∀ o, o ≠ 7 → o ≠ 15 → o ≠ 17 → o ≠ 27 → w_rel σ t s f o = σ o := fun o a b c d => by
    unfold w_rel
    rw [pr_up_ne a, pr_up_ne d, pr_up_ne c, pr_up_ne b]
  refine h.keep (h.cr.rel ht hk h0 h1) (fun o ho => ?_) (fun r hr => k _ (by omega) (by omega) (by omega) (by omega)) (fun j hj => ?_) (fun r hr => ?_)
  · simp only [List.mem_cons, List.not_mem_nil, or_false] at ho
    exact k o (by omega) (by omega) (by omega) (by omega)
  · rw [kp_gb (μ := pr_up μ 1 (1384 + 8 * t + 5) s) (mI.upn h.cr.m ((mW_tick (k := t) (c := 5) (by omega) (by decide)).trans rfl)) (by omega) hj]
    unfold kp at hj
    rw [pr_upk (by omega)]
  · exact (h.sr hr).of (k _ (by omega) (by omega) (by omega) (by omega)) (k _ (by omega) (by omega) (by omega) (by omega)) (k _ (by omega) (by omega) (by omega) (by omega)) (k _ (by omega) (by omega) (by omega) (by omega)) (by rw [k _ (by omega) (by omega) (by omega) (by omega)]) (k _ (by omega) (by omega) (by omega) (by omega)) (k _ (by omega) (by omega) (by omega) (by omega)) (by rw [k _ (by omega) (by omega) (by omega) (by omega)]) (by rw [k _ (by omega) (by omega) (by omega) (by omega)])
theorem rel_n {σ : pr_I} {t : Nat} {s f : Int32} : tkn (w_rel σ t s f) = tkn σ := rfl
theorem exp_s {σ : pr_I} {n k : Nat} : w_exp_it2 σ n (k + 1) = (if ((w_exp_it2 σ n k) 15 k) = 0 then (if (σ 14 k) = (σ 0 7) then (w_rel (w_exp_it2 σ n k) k (2 : Int32) (((σ 16 k) * (σ 119 3)) / (100 : Int32))) else (w_exp_it2 σ n k)) else (w_exp_it2 σ n k)) := by
  rw [w_exp_it2]
/-- expiries at the time that both have -/
theorem exp_loop {σ μ : pr_I} {n : Nat} {T : Int32} (h : Wd σ μ) (hT : σ 0 7 = T) {G : Nat → pr_I} (hG0 : G 0 = μ) (hG : ∀ k, G (k + 1) = (if ((G k) 1 (1384 + 8 * k + 5)) = 0 then (if ((G k) 1 (1384 + 8 * k + 4)) = T then (m_exp (G k) k) else (G k)) else (G k))) : ∀ k, k ≤ tkn σ → Wd (w_exp_it2 σ n k) (G k)
  | 0, _ => by rw [hG0]; exact h
  | k + 1, hk => by
    have ih := exp_loop (n := n) h hT hG0 hG k (by omega)
    have f : ∀ o, o ≠ 7 → o ≠ 15 → o ≠ 17 → o ≠ 27 → w_exp_it2 σ n k o = σ o := fun o a b c d => fr_w_exp_it2 (by simp only [List.mem_cons, List.not_mem_nil, or_false, forall_eq_or_imp, forall_eq]; omega)
    have ht : k < tkn (w_exp_it2 σ n k) := by unfold tkn; rw [f 9 (by decide) (by decide) (by decide) (by decide)]; exact hk
    have e5 : (w_exp_it2 σ n k) 15 k = (G k) 1 (1384 + 8 * k + 5) := ih.cr.tick ht (c := 5) (by decide)
    have e4 : σ 14 k = (G k) 1 (1384 + 8 * k + 4) := by rw [← ih.cr.tick ht (c := 4) (by decide), f (10 + 4) (by decide) (by decide) (by decide) (by decide)]
    have e6 : σ 16 k = (G k) 1 (1384 + 8 * k + 6) := by rw [← ih.cr.tick ht (c := 6) (by decide), f (10 + 6) (by decide) (by decide) (by decide) (by decide)]
    have e3 : σ 119 3 = (G k) 1 4 := by rw [← ih.cr.set (j := 3) (by decide), f 119 (by decide) (by decide) (by decide) (by decide)]
    rw [exp_s, hG k, ← e5, ← e4, hT]
    by_cases c : (w_exp_it2 σ n k) 15 k = 0
    · rw [if_pos c, if_pos c]
      by_cases c2 : σ 14 k = T
      · rw [if_pos c2, if_pos c2]
        unfold m_exp
        rw [← e6, ← e3]
        exact ih.rel ht (by unfold tk_kp; rw [if_pos c]; decide) (by decide) (by decide)
      · rw [if_neg c2, if_neg c2]; exact ih
    · rw [if_neg c, if_neg c]; exact ih
theorem kp_end {μ : pr_I} {r j : Nat} (hj : kp j) : ∀ k, k ≤ 500 → m_end_it2 μ r k 1 j = μ 1 j
  | 0, _ => rfl
  | k + 1, hk => by
    have ih := kp_end (μ := μ) (r := r) hj k (by omega)
    rw [m_end_it2]
    split
    · split
      · exact ih
      · rw [pr_upk (by unfold kp at hj; omega)]; exact ih
    · exact ih
theorem Wd.end1 {σ μ : pr_I} (h : Wd σ μ) {n r : Nat} (hn : n = tkn σ) (hr : r < rqn σ) (hs : σ 23 r = 2) : Wd (w_settle (w_ra σ n (nI r) 1 1 0) r 3) (m_end μ r) := by
  subst hn
  have h4 := wI_nr4 h.cr.w
  have C := end_loop h.cr (n := tkn σ) (r := r) (tkn σ) (Nat.le_refl _)
  have f : ∀ o, o ≠ 7 → o ≠ 15 → o ≠ 17 → o ≠ 27 → w_ra σ (tkn σ) (nI r) 1 1 0 o = σ o := fun o a b c d => fr_w_ra (by simp only [List.mem_cons, List.not_mem_nil, or_false, forall_eq_or_imp, forall_eq]; omega)
  have W1 : Wd (w_ra σ (tkn σ) (nI r) 1 1 0) (m_end_it2 μ r (mtn μ)) := by
    rw [h.cr.tn]
    refine h.keep C (fun o ho => ?_) (fun r hr => f _ (by omega) (by omega) (by omega) (by omega)) (fun j hj => kp_end hj _ (wI_n5 h.cr.w)) (fun r' hr' => ?_)
    · simp only [List.mem_cons, List.not_mem_nil, or_false] at ho
      exact f o (by omega) (by omega) (by omega) (by omega)
    · exact (h.sr hr').of (f _ (by omega) (by omega) (by omega) (by omega)) (f _ (by omega) (by omega) (by omega) (by omega)) (f _ (by omega) (by omega) (by omega) (by omega)) (f _ (by omega) (by omega) (by omega) (by omega)) (by rw [f _ (by omega) (by omega) (by omega) (by omega)]) (f _ (by omega) (by omega) (by omega) (by omega)) (f _ (by omega) (by omega) (by omega) (by omega)) (by rw [f _ (by omega) (by omega) (by omega) (by omega)]) (by rw [f _ (by omega) (by omega) (by omega) (by omega)])
  have rF : r < rqn (w_ra σ (tkn σ) (nI r) 1 1 0) := by unfold rqn; rw [f 18 (by decide) (by decide) (by decide) (by decide)]; exact hr
  have U := W1.use rF (s := 3) (nI_vin (k := 3) (by decide) (by decide)) (by decide)
  have e6 : (m_end_it2 μ r (mtn μ)) 1 (264 + 28 * r + 6) = -1 := by
    rw [← W1.cr.req rF (c := 6) (by decide), f (19 + 6) (by decide) (by decide) (by decide) (by decide)]
    exact (h.sr hr).2.2.1 (by rw [hs]; decide)
  rw [pr_up_id (k := 264 + 28 * r + 6) (by rw [pr_upk (by omega)]; exact e6)] at U
  exact U
theorem end_s {σ : pr_I} {n nr k : Nat} : w_end_it2 σ n nr (k + 1) = (if ((w_end_it2 σ n nr k) 23 k) = (2 : Int32) then (if (σ 30 k) = (σ 0 7) then (w_settle (w_ra (w_end_it2 σ n nr k) n (nI k) (1 : Int32) (1 : Int32) (0 : Int32)) k (3 : Int32)) else (w_end_it2 σ n nr k)) else (w_end_it2 σ n nr k)) := by
  rw [w_end_it2]
theorem ends_loop {σ μ : pr_I} {n nr : Nat} {T : Int32} (h : Wd σ μ) (hn : n = tkn σ) (hT : σ 0 7 = T) {G : Nat → pr_I} (hG0 : G 0 = μ) (hG : ∀ k, G (k + 1) = (if ((G k) 1 (264 + 28 * k + 4)) = (2 : Int32) then (if ((G k) 1 (264 + 28 * k + 11)) = T then (m_end (G k) k) else (G k)) else (G k))) : ∀ k, k ≤ rqn σ → Wd (w_end_it2 σ n nr k) (G k)
  | 0, _ => by rw [hG0]; exact h
  | k + 1, hk => by
    have ih := ends_loop (nr := nr) h hn hT hG0 hG k (by omega)
    have f : ∀ o, o ≠ 7 → o ≠ 15 → o ≠ 17 → o ≠ 23 → o ≠ 25 → o ≠ 27 → w_end_it2 σ n nr k o = σ o := fun o a b c d e g => fr_w_end_it2 (by simp only [List.mem_cons, List.not_mem_nil, or_false, forall_eq_or_imp, forall_eq]; omega)
    have ht : k < rqn (w_end_it2 σ n nr k) := by unfold rqn; rw [f 18 (by decide) (by decide) (by decide) (by decide) (by decide) (by decide)]; exact hk
    have hn2 : n = tkn (w_end_it2 σ n nr k) := by unfold tkn; rw [f 9 (by decide) (by decide) (by decide) (by decide) (by decide) (by decide)]; exact hn
    have e4 : (w_end_it2 σ n nr k) 23 k = (G k) 1 (264 + 28 * k + 4) := ih.cr.req ht (c := 4) (by decide)
    have e11 : σ 30 k = (G k) 1 (264 + 28 * k + 11) := by rw [← ih.cr.req ht (c := 11) (by decide), f (19 + 11) (by decide) (by decide) (by decide) (by decide) (by decide) (by decide)]
    rw [end_s, hG k, ← e4, ← e11, hT]
    by_cases c : (w_end_it2 σ n nr k) 23 k = 2
    · rw [if_pos c, if_pos c]
      by_cases c2 : σ 30 k = T
      · rw [if_pos c2, if_pos c2]; exact ih.end1 hn2 ht c
      · rw [if_neg c2, if_neg c2]; exact ih
    · rw [if_neg c, if_neg c]; exact ih
