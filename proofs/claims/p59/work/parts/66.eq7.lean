/-! THE WORLD OF BOTH, KEPT: a failed attempt -/
theorem Wd.keep {σ σ' μ μ' : pr_I} (h : Wd σ μ) (hC : Cr σ' μ') (he : ∀ o ∈ ([0, 1, 2, 3, 4, 5, 6, 18, 19, 20, 21, 22, 32, 119] : List Nat), σ' o = σ o) (h35 : ∀ r, r < 40 → σ' (35 + r) = σ (35 + r)) (hm : ∀ j, kp j → μ' 1 j = μ 1 j) (hs : ∀ r, r < rqn σ → Sr σ' r) : Wd σ' μ' := by
  refine ⟨hC, h.up.of (he 1 (by decide)) hm (wI_nl24 h.cr.w), h.pa.of (he 1 (by decide)) (he 18 (by decide)) (he 32 (by decide)) h35 hm h.cr.w, h.lk.of (by rw [he 0 (by decide)]) (by rw [he 1 (by decide)]) (he 2 (by decide)) (he 3 (by decide)) (he 4 (by decide)) (he 5 (by decide)) (he 6 (by decide)), h.rq.of (by rw [he 0 (by decide)]) (by rw [he 18 (by decide)]) (he 19 (by decide)) (he 20 (by decide)) (he 21 (by decide)) (he 22 (by decide)), h.se.of (he 119 (by decide)), h.ti.of (by rw [he 0 (by decide)]), fun r hr => hs r ?_⟩
  unfold rqn at hr ⊢; rw [he 18 (by decide)] at hr; exact hr
theorem nin {A B : List Nat} (h : ∀ o ∈ A, ∀ m ∈ B, o ≠ m) {o : Nat} (ho : o ∈ A) : ∀ m ∈ B, o ≠ m := h o ho
theorem fail_23 {σ : pr_I} {n r r' : Nat} {x : Int32} : (w_fail σ n r x) 23 r' = if r' = r then (if (σ 24 r + 1) < (σ 119 2) then 7 else 4) else σ 23 r' := by
  unfold w_fail
  by_cases c : (σ 24 r + 1) < (σ 119 2)
  · rw [if_pos c, if_pos c]
    by_cases q : r' = r
    · subst q; rw [if_pos rfl, pr_upv (show (23 : Nat) ≠ 25 by decide), pr_upe]
    · rw [if_neg q, pr_upv (show (23 : Nat) ≠ 25 by decide), pr_upk q, pr_upv (show (23 : Nat) ≠ 8 by decide), pr_upv (show (23 : Nat) ≠ 31 by decide), pr_upv (show (23 : Nat) ≠ 24 by decide), pr_upv (show (23 : Nat) ≠ 28 by decide), fr_w_ra (by decide)]
  · rw [if_neg c, if_neg c]
    unfold w_settle
    by_cases q : r' = r
    · subst q; rw [if_pos rfl, pr_upv (show (23 : Nat) ≠ 25 by decide), pr_upe]
    · rw [if_neg q, pr_upv (show (23 : Nat) ≠ 25 by decide), pr_upk q, pr_upv (show (23 : Nat) ≠ 8 by decide), pr_upv (show (23 : Nat) ≠ 31 by decide), pr_upv (show (23 : Nat) ≠ 24 by decide), pr_upv (show (23 : Nat) ≠ 28 by decide), fr_w_ra (by decide)]
theorem fail_25 {σ : pr_I} {n r r' : Nat} {x : Int32} : (w_fail σ n r x) 25 r' = if r' = r then (if (σ 24 r + 1) < (σ 119 2) then (σ 0 7 + σ 119 1) else -1) else σ 25 r' := by
  unfold w_fail
  by_cases c : (σ 24 r + 1) < (σ 119 2)
  · rw [if_pos c, if_pos c]
    by_cases q : r' = r
    · subst q; rw [if_pos rfl, pr_upe]
    · rw [if_neg q, pr_upk q, pr_upv (show (25 : Nat) ≠ 23 by decide), pr_upv (show (25 : Nat) ≠ 8 by decide), pr_upv (show (25 : Nat) ≠ 31 by decide), pr_upv (show (25 : Nat) ≠ 24 by decide), pr_upv (show (25 : Nat) ≠ 28 by decide), fr_w_ra (by decide)]
  · rw [if_neg c, if_neg c]
    unfold w_settle
    by_cases q : r' = r
    · subst q; rw [if_pos rfl, pr_upe]
    · rw [if_neg q, pr_upk q, pr_upv (show (25 : Nat) ≠ 23 by decide), pr_upv (show (25 : Nat) ≠ 8 by decide), pr_upv (show (25 : Nat) ≠ 31 by decide), pr_upv (show (25 : Nat) ≠ 24 by decide), pr_upv (show (25 : Nat) ≠ 28 by decide), fr_w_ra (by decide)]
theorem Wd.fail {σ μ : pr_I} (h : Wd σ μ) {n r : Nat} {x : Int32} (hn : n = tkn σ) (hr : r < rqn σ) (hx : vp_in x (lkn σ)) : Wd (w_fail σ n r x) (m_fa μ r x) := by
  have h4 := wI_nr4 h.cr.w
  have f : ∀ o, o ∈ ([9, 10, 11, 32, 33] : List Nat) → w_fail σ n r x o = σ o := fun o ho => fr_w_fail (nin (A := [9, 10, 11, 32, 33]) (by decide) ho)
  have f2 : ∀ o, 34 < o → w_fail σ n r x o = σ o := fun o ho => fr_w_fail (by simp only [List.mem_cons, List.not_mem_nil, or_false, forall_eq_or_imp, forall_eq]; omega)
  refine h.keep (h.cr.fa hn hr hx) (fun o ho => fr_w_fail (nin (A := [0, 1, 2, 3, 4, 5, 6, 18, 19, 20, 21, 22, 32, 119]) (by decide) ho)) (fun r' _ => f2 _ (by omega)) (fun j hj => kp_fa h.cr.m (by omega) (vp_in_mono hx (wI_nl24 h.cr.w)) hj) (fun r' hr' => ?_)
  by_cases q : r' = r
  · subst q
    unfold Sr
    rw [fail_23, fail_25, if_pos rfl, if_pos rfl]
    by_cases c : (σ 24 r' + 1) < (σ 119 2)
    · rw [if_pos c, if_pos c]
      exact ⟨nI_vin (k := 7) (by decide) (by decide), fun z => absurd z (by decide), fun z => absurd z (by decide), fun z => absurd z (by decide)⟩
    · rw [if_neg c, if_neg c]
      exact ⟨nI_vin (k := 4) (by decide) (by decide), fun z => absurd z (by decide), fun _ => rfl, fun z => absurd z (by decide)⟩
  · exact (h.sr hr').of (f 9 (by decide)) (f 10 (by decide)) (f 11 (by decide)) (f 32 (by decide)) (by rw [f 33 (by decide)]) (f2 _ (by omega)) (f2 _ (by omega)) (by rw [fail_23, if_neg q]) (by rw [fail_25, if_neg q])
/-! cells of the class alone -/
theorem Cr.pt {σ μ : pr_I} (h : Cr σ μ) {r k : Nat} {v : Int32} (hr : r < 40) (hv : vp_in v 500) : Cr (pr_up σ (76 + r) k v) μ := by
  obtain ⟨n1, n2, n3⟩ := cnt_up (σ := σ) (k := k) (v := v) (o := 76 + r) ⟨by omega, by omega, by omega⟩
  refine ⟨wI.upv h.w (wB_q hr) hv, h.m, ?_, ?_, ?_, ?_⟩
  · rw [n1, n2, n3]; exact h.rc.cls (by omega)
  · rw [n1, n2, n3, pr_up_ne (by omega), pr_up_ne (by omega)]; exact fun t => h.tl
  · rw [n3, pr_up_ne (by omega)]; exact fun t => h.pc
  · rw [n1, n3, pr_up_ne (by omega)]; exact fun k => h.pr
/-- a ticket confirmed -/
theorem prom_conf {μ : pr_I} {n t : Nat} {x : Int32} (h : μ 1 (1384 + 8 * t + 5) = 0) : ∀ j, m_prom_it4 (pr_up μ 1 (1384 + 8 * t + 5) 1) n x j = m_prom_it4 μ n x j
  | 0 => rfl
  | j + 1 => by
    have ih := prom_conf (n := n) (x := x) h j
    show m_prom_it4 (pr_up μ 1 (1384 + 8 * t + 5) 1) n x j + (if (pr_up μ 1 (1384 + 8 * t + 5) 1) 1 (1384 + 8 * j + 1) = x then (if m_kept_r (pr_up μ 1 (1384 + 8 * t + 5) 1) j = 0 then (0 : Int32) else (pr_up μ 1 (1384 + 8 * t + 5) 1) 1 (1384 + 8 * j + 2)) else (0 : Int32))
       = m_prom_it4 μ n x j + (if μ 1 (1384 + 8 * j + 1) = x then (if m_kept_r μ j = 0 then (0 : Int32) else μ 1 (1384 + 8 * j + 2)) else (0 : Int32))
    have k0 : m_kept_r (pr_up μ 1 (1384 + 8 * t + 5) 1) j = m_kept_r μ j := by
      unfold m_kept_r
      by_cases e : j = t
      · subst e; rw [pr_upe, h, if_neg (show ¬ (1 : Int32) = 0 by decide), if_pos rfl, if_pos rfl]
      · rw [pr_upk (by omega)]
    rw [ih, k0, pr_upk (by omega), pr_upk (by omega)]
theorem Cr.conf {σ μ : pr_I} (h : Cr σ μ) {t : Nat} (ht : t < tkn σ) (h0 : σ 15 t = 0) : Cr (pr_up σ 15 t 1) (pr_up μ 1 (1384 + 8 * t + 5) 1) := by
  have h5 := wI_n5 h.w
  have e5 : σ 15 t = μ 1 (1384 + 8 * t + 5) := h.tick ht (c := 5) (by decide)
  refine ⟨wI.upn h.w rfl, mI.upn h.m ((mW_tick (k := t) (c := 5) (by omega) (by decide)).trans rfl), h.rc.up (cA_tick (c := 5) (by decide)), fun t' => h.tl, fun t' => h.pc, fun k hk => ?_⟩
  show σ 7 k = m_prom_it4 _ (tkn σ) (nI k) (tkn σ)
  rw [prom_conf (e5.symm.trans h0)]
  exact h.pr hk
/-! the last ticket on a link -/
theorem tof_it {μ : pr_I} {r t : Nat} {x : Int32} (h0 : μ 1 (1384 + 8 * t + 0) = nI r) (h1 : μ 1 (1384 + 8 * t + 1) = x) : ∀ n, t < n → (∀ t', t < t' → t' < n → ¬ (μ 1 (1384 + 8 * t' + 0) = nI r ∧ μ 1 (1384 + 8 * t' + 1) = x)) → m_tof_it5 μ r x n = nI t
  | 0, h, _ => absurd h (by omega)
  | n + 1, h, hn => by
    rw [m_tof_it5]
    by_cases e : t = n
    · subst e; rw [if_pos h0, if_pos h1]
    · have ih := tof_it h0 h1 n (by omega) (fun t' a b => hn t' a (by omega))
      have g := hn n (by omega) (by omega)
      by_cases c : μ 1 (1384 + 8 * n + 0) = nI r
      · rw [if_pos c, if_neg (fun q => g ⟨c, q⟩)]; exact ih
      · rw [if_neg c]; exact ih
