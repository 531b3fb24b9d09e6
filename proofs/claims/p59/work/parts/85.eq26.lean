/-! AN EVENT'S TIME ON BOTH SIDES -/
theorem tkn_c {a b : pr_I} (h : a 9 = b 9) : tkn a = tkn b := by unfold tkn; rw [h]
theorem rqn_c {a b : pr_I} (h : a 18 = b 18) : rqn a = rqn b := by unfold rqn; rw [h]
theorem lkn_c {a b : pr_I} (h : a 1 = b 1) : lkn a = lkn b := by unfold lkn; rw [h]
theorem Wd.time {σ μ : pr_I} (h : Wd σ μ) {T : Int32} (h0 : 0 ≤ T.toInt) (h1 : T.toInt ≤ 1100000) : Wd (pr_up σ 0 7 T) (pr_up μ 1 0 T) := by
  have h4 := wI_nr4 h.cr.w
  have k : ∀ o, o ≠ 0 → pr_up σ 0 7 T o = σ o := fun o a => pr_up_ne a
  have km : ∀ j, kp j → pr_up μ 1 0 T 1 j = μ 1 j := fun j hj => by unfold kp at hj; rw [pr_upk (by omega)]
  have k6 : pr_up σ 0 7 T 0 6 = σ 0 6 := pr_upk (by decide)
  refine ⟨h.cr.utime, h.up.of (k 1 (by decide)) km (wI_nl24 h.cr.w), h.pa.of (k 1 (by decide)) (k 18 (by decide)) (k 32 (by decide)) (fun r _ => k _ (by omega)) km h.cr.w, h.lk.of k6 (by rw [k 1 (by decide)]) (k 2 (by decide)) (k 3 (by decide)) (k 4 (by decide)) (k 5 (by decide)) (k 6 (by decide)), h.rq.of k6 (by rw [k 18 (by decide)]) (k 19 (by decide)) (k 20 (by decide)) (k 21 (by decide)) (k 22 (by decide)), h.se.of (k 119 (by decide)), ?_, fun r hr => ?_⟩
  · unfold Ti; rw [pr_upe]; exact ⟨h0, h1⟩
  · have hr' : r < rqn σ := by unfold rqn at hr ⊢; rw [k 18 (by decide)] at hr; exact hr
    exact (h.sr hr').of (k _ (by omega)) (k _ (by omega)) (k _ (by omega)) (k _ (by omega)) (by rw [k _ (by omega)]) (k _ (by omega)) (k _ (by omega)) (by rw [k _ (by omega)]) (by rw [k _ (by omega)])
/-- the next event's time in the class, no later than lat -/
noncomputable def w_nt (σ : pr_I) (lat : Int32) : Int32 := if (w_next_r σ (tkn σ) (rqn σ)) = ((-1) : Int32) then lat else (if (w_next_r σ (tkn σ) (rqn σ)) ≤ lat then (w_next_r σ (tkn σ) (rqn σ)) else lat)
theorem pn_s {σ : pr_I} {lat : Int32} {k : Nat} : w_pn_it34 σ lat (k + 1) = w_tr (w_pn_it34 σ lat k) k := by rw [w_pn_it34]
theorem ts_s {μ : pr_I} {k : Nat} : m_ts_it110 μ (k + 1) = m_tr (m_ts_it110 μ k) k := by rw [m_ts_it110]
theorem ts12_s {μ : pr_I} {k : Nat} : m_ts_it12 μ (k + 1) = (if ((m_ts_it12 μ k) 1 (1384 + 8 * k + 5)) = 0 then (if ((m_ts_it12 μ k) 1 (1384 + 8 * k + 4)) = ((μ 1 0) + (1 : Int32)) then (m_exp (m_ts_it12 μ k) k) else (m_ts_it12 μ k)) else (m_ts_it12 μ k)) := by rw [m_ts_it12]
theorem ts60_s {μ : pr_I} {k : Nat} : m_ts_it60 μ (k + 1) = (if ((m_ts_it60 μ k) 1 (264 + 28 * k + 4)) = (2 : Int32) then (if ((m_ts_it60 μ k) 1 (264 + 28 * k + 11)) = ((μ 1 0) + (1 : Int32)) then (m_end (m_ts_it60 μ k) k) else (m_ts_it60 μ k)) else (m_ts_it60 μ k)) := by rw [m_ts_it60]
theorem Wd.ev {σ μ μ' : pr_I} {T lat : Int32} (h : Wd σ μ) (h0 : 0 ≤ T.toInt) (h1 : T.toInt ≤ 1100000) (eT : w_nt σ lat = T) (hm : pr_up μ' 1 0 (μ' 1 0 + 1) = pr_up μ 1 0 T) : ∀ k, k ≤ rqn σ → Wd (w_pn_it34 σ lat k) (m_ts_it110 μ' k) ∧ ∀ i, i < k → m_tr_ok (m_ts_it110 μ' i) i ∧ ¬ (w_pn_it34 σ lat (i + 1)) 25 i = T := by
  have h4 := wI_nr4 h.cr.w
  have cT : μ' 1 0 + 1 = T := by
    have := congrFun (congrFun hm 1) 0
    rw [pr_upe, pr_upe] at this; exact this
  have ct : mtn μ' = tkn σ := by
    have := congrFun (congrFun hm 1) 9
    rw [pr_upk (by decide), pr_upk (by decide)] at this
    rw [← h.cr.tn]; unfold mtn; rw [this]
  have cr : mrn μ' = rqn σ := by
    have := congrFun (congrFun hm 1) 8
    rw [pr_upk (by decide), pr_upk (by decide)] at this
    rw [← h.cr.rn]; unfold mrn; rw [this]
  have W1 := h.time h0 h1
  have t1 : pr_up σ 0 7 T 0 7 = T := pr_upe
  have n1 : tkn (pr_up σ 0 7 T) = tkn σ := rfl
  have n2 : rqn (pr_up σ 0 7 T) = rqn σ := rfl
  have W2 := exp_loop (n := tkn σ) W1 t1 (G := m_ts_it12 μ') hm (fun k => by rw [ts12_s, cT]) (tkn σ) (Nat.le_refl _)
  have fE : ∀ o, o ≠ 7 → o ≠ 15 → o ≠ 17 → o ≠ 27 → w_exp_it2 (pr_up σ 0 7 T) (tkn σ) (tkn σ) o = pr_up σ 0 7 T o := fun o a b c d => fr_w_exp_it2 (by simp only [List.mem_cons, List.not_mem_nil, or_false, forall_eq_or_imp, forall_eq]; omega)
  have W3 := ends_loop (n := tkn σ) (nr := rqn σ) W2 (n1.symm.trans (tkn_c (fE 9 (by decide) (by decide) (by decide) (by decide))).symm) (T := T) (by rw [fE 0 (by decide) (by decide) (by decide) (by decide)]; exact t1) (G := m_ts_it60 μ') (by show m_ts_it12 μ' (mtn μ') = _; rw [ct]) (fun k => by rw [ts60_s, cT]) (rqn σ) (Nat.le_of_eq (n2.symm.trans (rqn_c (fE 18 (by decide) (by decide) (by decide) (by decide))).symm))
  have base : w_pn_it34 σ lat 0 = w_end_it2 (w_exp_it2 (pr_up σ 0 7 T) (tkn σ) (tkn σ)) (tkn σ) (rqn σ) (rqn σ) := by
    rw [← eT]; rfl
  have base2 : m_ts_it110 μ' 0 = m_ts_it60 μ' (rqn σ) := by
    show m_ts_it60 μ' (mrn μ') = _; rw [cr]
  have f18 : ∀ k, k ≤ 40 → (w_pn_it34 σ lat k) 18 = σ 18 := fun k hk => by
    rw [fr_w_pn_it34 (by decide) (by omega) hk, fr_w_end (by decide), fr_w_exp (by decide), pr_up_ne (by decide)]
  have f0 : ∀ k, k ≤ 40 → (w_pn_it34 σ lat k) 0 7 = T := fun k hk => by
    rw [fr_w_pn_it34 (by decide) (by omega) hk, fr_w_end (by decide), fr_w_exp (by decide), pr_upe]; exact eT
  intro k
  induction k with
  | zero => intro _; rw [base, base2]; exact ⟨W3, fun i hi => absurd hi (by omega)⟩
  | succ k ih =>
    intro hk
    obtain ⟨i1, i2⟩ := ih (by omega)
    have rk : k < rqn (w_pn_it34 σ lat k) := by rw [rqn_c (f18 k (by omega))]; exact hk
    have t := i1.tr rk
    rw [pn_s, ts_s]
    refine ⟨t.1, fun i hi => ?_⟩
    by_cases q : i = k
    · subst q
      rw [pn_s]
      refine ⟨t.2.1, ?_⟩
      have := t.2.2
      rw [f0 i (by omega)] at this; exact this
    · exact i2 i (by omega)
theorem Wd.pn {σ μ μ' : pr_I} {T lat : Int32} (h : Wd σ μ) (h0 : 0 ≤ T.toInt) (h1 : T.toInt ≤ 1100000) (eT : w_nt σ lat = T) (hm : pr_up μ' 1 0 (μ' 1 0 + 1) = pr_up μ 1 0 T) : Wd (w_pn σ lat) (m_ts μ') ∧ m_ts_ok μ' := by
  have cr : mrn μ' = rqn σ := by
    have := congrFun (congrFun hm 1) 8
    rw [pr_upk (by decide), pr_upk (by decide)] at this
    rw [← h.cr.rn]; unfold mrn; rw [this]
  have e := h.ev h0 h1 eT hm (rqn σ) (Nat.le_refl _)
  unfold w_pn m_ts m_ts_ok
  rw [cr]
  exact ⟨e.1, fun k hk => (e.2 k hk).1⟩
/-! THE NEXT EVENT -/
theorem fe_eq {σ μ : pr_I} (h : Cr σ μ) : ∀ k, k ≤ tkn σ → (∀ t, t < k → ¬ σ 14 t = -1) → tk_fe σ k = m_nx_it4 μ k
  | 0, _, _ => rfl
  | k + 1, hk, hn => by
    have ih := fe_eq h k (by omega) (fun t ht => hn t (by omega))
    have e5 : σ 15 k = μ 1 (1384 + 8 * k + 5) := h.tick hk (c := 5) (by decide)
    have e4 : σ 14 k = μ 1 (1384 + 8 * k + 4) := h.tick hk (c := 4) (by decide)
    have s : tk_fe σ (k + 1) = if σ 15 k = 0 then (if tk_fe σ k = -1 then σ 14 k else if tk_fe σ k ≤ σ 14 k then tk_fe σ k else σ 14 k) else tk_fe σ k := by rw [tk_fe]
    rw [s, m_nx_it4, ← e5, ← e4, ← ih]
    unfold m_ear_r
    by_cases c : σ 15 k = 0
    · rw [if_pos c, if_pos c]
      by_cases c1 : tk_fe σ k = -1
      · rw [if_pos c1, if_pos c1]
      · rw [if_neg c1, if_neg c1, if_neg (hn k (by omega))]
        by_cases c2 : tk_fe σ k ≤ σ 14 k
        · rw [if_pos c2, if_neg (fun q => by rw [Int32.lt_iff_toInt_lt] at q; rw [Int32.le_iff_toInt_le] at c2; omega)]
        · rw [if_neg c2, if_pos (by rw [Int32.lt_iff_toInt_lt]; rw [Int32.le_iff_toInt_le] at c2; omega)]
    · rw [if_neg c, if_neg c]
theorem ear_eq {μ : pr_I} {a b : Int32} : m_ear_r μ a b = if b = -1 then a else if a = -1 then b else if a ≤ b then a else b := by
  unfold m_ear_r
  by_cases c1 : a = -1
  · rw [if_pos c1, if_pos c1]
    by_cases c2 : b = -1
    · rw [if_pos c2, c1, c2]
    · rw [if_neg c2]
  · rw [if_neg c1, if_neg c1]
    by_cases c2 : b = -1
    · rw [if_pos c2, if_pos c2]
    · rw [if_neg c2, if_neg c2]
      by_cases c3 : a ≤ b
      · rw [if_pos c3, if_neg (fun q => by rw [Int32.lt_iff_toInt_lt] at q; rw [Int32.le_iff_toInt_le] at c3; omega)]
      · rw [if_neg c3, if_pos (by rw [Int32.lt_iff_toInt_lt]; rw [Int32.le_iff_toInt_le] at c3; omega)]
theorem next_eq {σ μ : pr_I} (h : Wd σ μ) (hn : ∀ t, t < tkn σ → ¬ σ 14 t = -1) {n nr : Nat} (en : n = tkn σ) : ∀ k, k ≤ rqn σ → w_next_it10 σ n nr k = m_ne_it7 μ k
  | 0, _ => by
    show tk_fe σ n = m_nx_r μ
    unfold m_nx_r
    rw [h.cr.tn, en]
    exact fe_eq h.cr (tkn σ) (Nat.le_refl _) hn
  | k + 1, hk => by
    have ih := next_eq h hn (nr := nr) en k (by omega)
    have e4 : σ 23 k = μ 1 (264 + 28 * k + 4) := h.cr.req hk (c := 4) (by decide)
    have e6 : σ 25 k = μ 1 (264 + 28 * k + 6) := h.cr.req hk (c := 6) (by decide)
    have e11 : σ 30 k = μ 1 (264 + 28 * k + 11) := h.cr.req hk (c := 11) (by decide)
    rw [m_ne_it7, ← e4, ← e6, ← e11, ← ih, w_next_it10]
    by_cases c : σ 23 k = 2
    · have d : σ 25 k = -1 := (h.sr hk).2.2.1 (by rw [c]; decide)
      rw [if_pos c, if_pos c, if_neg (show ¬ (1 : Int32) = 0 by decide), d, ear_eq, ear_eq, if_pos rfl]
    · rw [if_neg c, if_neg c, if_pos rfl, ear_eq]
