/-! A LINK TAKEN DOWN: what its active requests get back -/
theorem pcl {q : Int64} (h0 : 0 ≤ q.toInt) (h1 : q.toInt ≤ 10000000000000000) : q * (100 : Int32).toInt64 / (100 : Int64) = q := by
  have e : (100 : Int32).toInt64 = (100 : Int64) := by decide
  have e2 : (100 : Int64).toInt = 100 := by decide
  rw [e]
  apply Int64.toInt_inj.mp
  have m : (q * 100).toInt = q.toInt * 100 := by rw [l_mul (by rw [e2]; omega) (by rw [e2]; omega), e2]
  rw [l_div (by rw [m]; omega) (by rw [e2]; omega), m, e2]
  omega
theorem am_un {p a b : Int32} (p0 : 0 ≤ p.toInt) (p1 : p.toInt ≤ 1000000) (a0 : 0 ≤ a.toInt) (b1 : 1 ≤ b.toInt) : ((((if (1 : Int32) ≤ b then ((p.toInt64 * a.toInt64) / b.toInt64) else (0 : Int64)) * (100 : Int32).toInt64) / (100 : Int64))).toInt32 = ((p.toInt64 * a.toInt64) / b.toInt64).toInt32 := by
  have hb : (1 : Int32) ≤ b := le_i.mpr (by show (1 : Int) ≤ _; exact b1)
  have ha := a.toInt_lt
  have m1 : 0 ≤ p.toInt * a.toInt := Int.mul_nonneg p0 a0
  have m2 : p.toInt * a.toInt ≤ 1000000 * 2147483648 := Int.mul_le_mul p1 (by omega) a0 (by decide)
  have pm : (p.toInt64 * a.toInt64).toInt = p.toInt * a.toInt := by
    rw [l_mul (by rw [Int32.toInt_toInt64, Int32.toInt_toInt64]; omega) (by rw [Int32.toInt_toInt64, Int32.toInt_toInt64]; omega), Int32.toInt_toInt64, Int32.toInt_toInt64]
  have qd : ((p.toInt64 * a.toInt64) / b.toInt64).toInt = p.toInt * a.toInt / b.toInt := by
    rw [l_div (by rw [pm]; exact m1) (by rw [Int32.toInt_toInt64]; omega), pm, Int32.toInt_toInt64]
  have q0 : 0 ≤ p.toInt * a.toInt / b.toInt := Int.ediv_nonneg m1 (by omega)
  have q1 : p.toInt * a.toInt / b.toInt ≤ p.toInt * a.toInt := Int.ediv_le_self _ m1
  rw [if_pos hb, pcl (by rw [qd]; exact q0) (by rw [qd]; omega)]
theorem br_s {μ : pr_I} {r k : Nat} : m_br_it2 μ r (k + 1) = (if ((m_br_it2 μ r k) 1 (1384 + 8 * k + 0)) = (nI r) then (if (m_kept_r (m_br_it2 μ r k) k) = 0 then (m_br_it2 μ r k) else (m_gb (pr_up (m_br_it2 μ r k) 1 (1384 + 8 * k + 5) (3 : Int32)) k (m_un_r (pr_up (m_br_it2 μ r k) 1 (1384 + 8 * k + 5) (3 : Int32)) r k))) else (m_br_it2 μ r k)) := by rw [m_br_it2]
theorem br_loop {σ μ : pr_I} (h : Wd σ μ) {n r : Nat} (hr : r < rqn σ) (he : (σ 0 7).toInt ≤ (σ 30 r).toInt) : ∀ k, k ≤ tkn σ → Cr (w_ra_it6 σ n (nI r) (σ 30 r - σ 0 7) (σ 22 r) 100 k).1 (m_br_it2 μ r k) :=
  ra_loop h.cr (G := m_br_it2 μ r) (f := fun k => m_un_r (pr_up (m_br_it2 μ r k) 1 (1384 + 8 * k + 5) (3 : Int32)) r k) rfl (fun k => br_s) (fun k hk ih => by
    have h4 := wI_nr4 h.cr.w
    obtain ⟨n1, n2, n3⟩ := ra_n (σ := σ) (n := n) (r := nI r) (a := σ 30 r - σ 0 7) (b := σ 22 r) (p := 100) (k := k)
    have rr : r < rqn (w_ra_it6 σ n (nI r) (σ 30 r - σ 0 7) (σ 22 r) 100 k).1 := by rw [n2]; exact hr
    have e6 : σ 16 k = (m_br_it2 μ r k) 1 (1384 + 8 * k + 6) := by
      rw [← ih.tick (t := k) (by rw [n3]; exact hk) (c := 6) (by decide), fr_w_ra_it6 (o := 16) (by decide)]
    have e11 : σ 30 r = (m_br_it2 μ r k) 1 (264 + 28 * r + 11) := by rw [← ih.req rr (c := 11) (by decide), fr_w_ra_it6 (o := 30) (by decide)]
    have e3 : σ 22 r = (m_br_it2 μ r k) 1 (264 + 28 * r + 3) := by rw [← ih.req rr (c := 3) (by decide), fr_w_ra_it6 (o := 22) (by decide)]
    have en : σ 0 7 = (m_br_it2 μ r k) 1 0 := by rw [← ih.now, fr_w_ra_it6 (o := 0) (by decide)]
    have hp := h.cr.pc hk
    have hq := (h.rq r hr).2.2.2.2
    have t0 := h.ti.1
    have hlt := (σ 30 r).toInt_lt
    show w_am σ (σ 30 r - σ 0 7) (σ 22 r) 100 k = m_un_r (pr_up (m_br_it2 μ r k) 1 (1384 + 8 * k + 5) (3 : Int32)) r k
    unfold w_am m_un_r
    rw [pr_upk (show 1384 + 8 * k + 6 ≠ 1384 + 8 * k + 5 by omega), pr_upk (show 264 + 28 * r + 11 ≠ 1384 + 8 * k + 5 by omega), pr_upk (show 0 ≠ 1384 + 8 * k + 5 by omega), pr_upk (show 264 + 28 * r + 3 ≠ 1384 + 8 * k + 5 by omega), ← e6, ← e11, ← e3, ← en]
    exact am_un hp.1 hp.2 (by rw [i_sub (by omega) (by omega)]; omega) hq.1)
theorem kp_br {μ : pr_I} {r j : Nat} (hI : mI μ) (hj : kp j) : ∀ k, k ≤ 500 → m_br_it2 μ r k 1 j = μ 1 j
  | 0, _ => rfl
  | k + 1, hk => by
    have ih := kp_br (r := r) hI hj k (by omega)
    have im := mI_m_br_it2 (r := r) hI k (by omega)
    have e : (pr_up (m_br_it2 μ r k) 1 (1384 + 8 * k + 5) (3 : Int32)) 1 j = μ 1 j := by
      rw [pr_upk (by unfold kp at hj; omega)]; exact ih
    rw [br_s]
    split
    · split
      · exact ih
      · exact (kp_gb (μ := pr_up (m_br_it2 μ r k) 1 (1384 + 8 * k + 5) (3 : Int32)) (mI.upn im ((mW_tick (k := k) (c := 5) (by omega) (by decide)).trans rfl)) (by omega) hj).trans e
    · exact ih
/-- the class' side of a break -/
noncomputable def w_br (σ : pr_I) (n r : Nat) : pr_I := pr_up (w_settle (w_ra σ n (nI r) (σ 30 r - σ 0 7) (σ 22 r) 100) r 6) 30 r (σ 0 7)
theorem Wd.br {σ μ : pr_I} (h : Wd σ μ) {n r : Nat} (hn : n = tkn σ) (hr : r < rqn σ) (he : (σ 0 7).toInt ≤ (σ 30 r).toInt) : Wd (w_br σ n r) (m_br μ r) := by
  subst hn
  have h4 := wI_nr4 h.cr.w
  have C := br_loop h (n := tkn σ) hr he (tkn σ) (Nat.le_refl _)
  have f : ∀ o, o ≠ 7 → o ≠ 15 → o ≠ 17 → o ≠ 27 → w_ra σ (tkn σ) (nI r) (σ 30 r - σ 0 7) (σ 22 r) 100 o = σ o := fun o a b c d => fr_w_ra (by simp only [List.mem_cons, List.not_mem_nil, or_false, forall_eq_or_imp, forall_eq]; omega)
  have W1 : Wd (w_ra σ (tkn σ) (nI r) (σ 30 r - σ 0 7) (σ 22 r) 100) (m_br_it2 μ r (mtn μ)) := by
    rw [h.cr.tn]
    refine h.keep C (fun o ho => ?_) (fun r hr => f _ (by omega) (by omega) (by omega) (by omega)) (fun j hj => kp_br h.cr.m hj _ (wI_n5 h.cr.w)) (fun r' hr' => ?_)
    · simp only [List.mem_cons, List.not_mem_nil, or_false] at ho
      exact f o (by omega) (by omega) (by omega) (by omega)
    · exact (h.sr hr').of (f _ (by omega) (by omega) (by omega) (by omega)) (f _ (by omega) (by omega) (by omega) (by omega)) (f _ (by omega) (by omega) (by omega) (by omega)) (f _ (by omega) (by omega) (by omega) (by omega)) (by rw [f _ (by omega) (by omega) (by omega) (by omega)]) (f _ (by omega) (by omega) (by omega) (by omega)) (f _ (by omega) (by omega) (by omega) (by omega)) (by rw [f _ (by omega) (by omega) (by omega) (by omega)]) (by rw [f _ (by omega) (by omega) (by omega) (by omega)])
  have rF : r < rqn (w_ra σ (tkn σ) (nI r) (σ 30 r - σ 0 7) (σ 22 r) 100) := by rw [rqn_c (f 18 (by decide) (by decide) (by decide) (by decide))]; exact hr
  have U := W1.use rF (s := 6) (nI_vin (k := 6) (by decide) (by decide)) (by decide)
  have rU : r < rqn (w_settle (w_ra σ (tkn σ) (nI r) (σ 30 r - σ 0 7) (σ 22 r) 100) r 6) := by rw [rqn_c (settle_c (by decide) (by decide))]; exact rF
  have V := U.u1 (c := 11) (v := σ 0 7) rU (by decide)
  have en : (m_br_it2 μ r (mtn μ)) 1 0 = σ 0 7 := by rw [← W1.cr.now, f 0 (by decide) (by decide) (by decide) (by decide)]
  unfold w_br m_br m_st
  rw [en]
  exact V
theorem Opr.br {σ : pr_I} {n r : Nat} : Opr σ (w_br σ n r) r := by
  have f : ∀ o, o ≠ 7 → o ≠ 15 → o ≠ 17 → o ≠ 27 → w_ra σ n (nI r) (σ 30 r - σ 0 7) (σ 22 r) 100 o = σ o := fun o a b c d => fr_w_ra (by simp only [List.mem_cons, List.not_mem_nil, or_false, forall_eq_or_imp, forall_eq]; omega)
  have k : ∀ o, o ≠ 30 → o ≠ 23 → o ≠ 25 → w_br σ n r o = w_ra σ n (nI r) (σ 30 r - σ 0 7) (σ 22 r) 100 o := fun o a b c => by
    unfold w_br; rw [pr_up_ne a, settle_c b c]
  have kk : ∀ o, o ≠ 30 → o ≠ 23 → o ≠ 25 → o ≠ 7 → o ≠ 15 → o ≠ 17 → o ≠ 27 → w_br σ n r o = σ o := fun o a b c d e g i => (k o a b c).trans (f o d e g i)
  refine ⟨kk 0 (by decide) (by decide) (by decide) (by decide) (by decide) (by decide) (by decide), kk 18 (by decide) (by decide) (by decide) (by decide) (by decide) (by decide) (by decide), fun t ht => Or.inl ⟨?_, ?_, fun z => ?_⟩, fun r' hr' => ⟨?_, ?_, ?_⟩, fun z => ?_, Or.inl ?_⟩
  · rw [tkn_c (kk 9 (by decide) (by decide) (by decide) (by decide) (by decide) (by decide) (by decide))] at ht; exact ht
  · rw [kk 14 (by decide) (by decide) (by decide) (by decide) (by decide) (by decide) (by decide)]
  · rw [k 15 (by decide) (by decide) (by decide)] at z; exact ra15 n z
  · unfold w_br w_settle
    rw [pr_upv (by decide), pr_upk hr', pr_upv (by decide), f 25 (by decide) (by decide) (by decide) (by decide)]
  · unfold w_br w_settle
    rw [pr_upv (by decide), pr_upv (by decide), pr_upk hr', f 23 (by decide) (by decide) (by decide) (by decide)]
  · unfold w_br
    rw [pr_upk hr', settle_c (by decide) (by decide), f 30 (by decide) (by decide) (by decide) (by decide)]
  · unfold w_br w_settle at z
    rw [pr_upv (by decide), pr_upv (by decide), pr_upe] at z; exact absurd z (by decide)
  · unfold w_br w_settle
    rw [pr_upv (by decide), pr_upe]
/-- a request has a kept ticket on the link -/
theorem has_eq {σ μ : pr_I} (h : Cr σ μ) {r : Nat} {x : Int32} : ∀ j k, k + j = tkn σ → tk_has σ (nI r) x j k = m_has1_rl2 μ r x (j + 1) k
  | 0, k, e => by
    have h5 := wI_n5 h.w
    rw [tk_has, m_has1_rl2, h.tn, if_pos ((nI_leI (by omega) (by omega)).mpr (by omega))]
  | j + 1, k, e => by
    have h5 := wI_n5 h.w
    have ih := has_eq h (r := r) (x := x) j (k + 1) (by omega)
    have e0 : σ 10 k = μ 1 (1384 + 8 * k + 0) := h.tick (by omega) (c := 0) (by decide)
    have e1 : σ 11 k = μ 1 (1384 + 8 * k + 1) := h.tick (by omega) (c := 1) (by decide)
    rw [tk_has, m_has1_rl2, h.tn, if_neg (show ¬ nI (tkn σ) ≤ nI k from fun q => by have := (nI_leI (by omega) (by omega)).mp q; omega), ← e0, ← e1, ← h.kept (by omega), ih]
theorem has_r {σ μ : pr_I} (h : Cr σ μ) {r n : Nat} {x : Int32} (hn : n = tkn σ) : tk_has σ (nI r) x n 0 = m_has1_r μ r x := by
  unfold m_has1_r
  rw [h.tn, hn]
  exact has_eq h (tkn σ) 0 (by omega)
