/-! COUNTS ON BOTH SIDES, WHAT THE REFERENCE KEEPS -/
section CNB
variable {σ μ σ' μ' : pr_I}
theorem cnl (h : WX σ μ) : mln μ = lkn σ := by unfold mln lkn; rw [show σ 1 8 = μ 1 7 from h.1.1.cr.rc.g (j := 7) (by decide)]
theorem cnn (h : WX σ μ) : mnn μ = ndn σ := by unfold mnn ndn; rw [show σ 0 6 = μ 1 6 from h.1.1.cr.rc.g (j := 6) (by decide)]
theorem cnr (h : WX σ μ) : mrn μ = rqn σ := by unfold mrn rqn; rw [show σ 18 17 = μ 1 8 from h.1.1.cr.rc.g (j := 8) (by decide)]
theorem cnt (h : WX σ μ) : mtn μ = tkn σ := by unfold mtn tkn; rw [show σ 9 8 = μ 1 9 from h.1.1.cr.rc.g (j := 9) (by decide)]
theorem bnl (h : WX σ μ) : mln μ < 2147483648 := by rw [cnl h]; have := wI_nl24 h.1.1.cr.w; omega
theorem bnn (h : WX σ μ) : mnn μ < 2147483648 := by rw [cnn h]; have := wI_nn12 h.1.1.cr.w; omega
theorem bnr (h : WX σ μ) : mrn μ < 2147483648 := by rw [cnr h]; have := wI_nr4 h.1.1.cr.w; omega
theorem bnt (h : WX σ μ) : mtn μ < 2147483648 := by rw [cnt h]; have := wI_n5 h.1.1.cr.w; omega
theorem WXof (X : WX σ μ) (h : WT σ' μ') (t : Tx σ') (e : μ' 1 0 = μ 1 0) : WX σ' μ' := by
  refine ⟨h, t, ?_⟩
  have a : σ' 0 7 = μ' 1 0 := h.1.cr.rc.g (j := 0) (by decide)
  have b : σ 0 7 = μ 1 0 := X.1.1.cr.rc.g (j := 0) (by decide)
  rw [a, e, ← b]; exact X.2.2
end CNB
theorem q_pathLink {σ : pr_I} {k : Nat} {z : Int32} : mf_pathLink σ k z = pr_up σ 0 6 (0 : Int32) := by unfold mf_pathLink; exact ite_self _
theorem q_nameLetter {σ : pr_I} {k : Nat} {z : Int32} : mf_nameLetter σ k z = pr_up σ 0 6 (0 : Int32) := by unfold mf_nameLetter; exact ite_self _
theorem q_cheapestLink {σ : pr_I} {s t : Nat} {u i : Int32} : mf_cheapestLink σ s t u i = m_fi (pr_up σ 0 6 (0 : Int32)) (nI s) (nI t) (m_lw_r (pr_up σ 0 6 (0 : Int32)) (mtn σ) (mln σ) u) := by
  unfold mf_cheapestLink
  rw [ite_self, ite_self]
theorem q_neededHold {σ : pr_I} {s t : Nat} {u : Int32} : mf_neededHold σ s t u = m_fi (pr_up σ 0 6 (0 : Int32)) (nI s) (nI t) (m_lw_r (pr_up σ 0 6 (0 : Int32)) (mtn σ) (mln σ) u) := by
  unfold mf_neededHold
  rw [ite_self]
theorem z6_fi {σ : pr_I} {s t u : Int32} : m_fi (pr_up σ 0 6 (0 : Int32)) s t u 0 6 = 0 := by rw [z6_m_fi, pr_upe]
/-! row 1 is as it was behind a prediction -/
theorem k1_fn {X : pr_I} {s t u : Int32} {j : Nat} (hj : j < 5384) : m_fn X s t u 1 j = X 1 j := by
  unfold m_fn
  rw [pr_row_eq, cp_lt hj, cp_lt hj]
theorem k1_gn {σ : pr_I} {s t i : Nat} (hi : i < 5384) : ∀ (j : Nat) (X : pr_I) (x : Int32), (mf_greatestNew_fl30 σ s t j X x).1 1 i = X 1 i
  | 0, _, _ => rfl
  | j + 1, X, x => by
    have ih := k1_gn (σ := σ) (s := s) (t := t) hi j (m_fn X (nI s) (nI t) x) (x / (2 : Int32))
    rw [show mf_greatestNew_fl30 σ s t (j + 1) X x = (if x ≤ 0 then (X, ((-1) : Int32)) else (if (m_fn_r X (nI s) (nI t) x) = ((-1) : Int32) then (mf_greatestNew_fl30 σ s t j (m_fn X (nI s) (nI t) x) (x / (2 : Int32))) else ((m_fn X (nI s) (nI t) x), x))) from rfl]
    by_cases c : x ≤ 0
    · rw [if_pos c]
    · rw [if_neg c]
      by_cases c2 : (m_fn_r X (nI s) (nI t) x) = ((-1) : Int32)
      · rw [if_pos c2, ih, k1_fn hi]
      · rw [if_neg c2]
        exact k1_fn hi
theorem k1_ta {σ : pr_I} {k i : Nat} {u : Int32} (hi : i < 5384) : ∀ (j : Nat) (X : pr_I) (x : Int32), mf_ticksUntilAvailable_ok48 σ k u j X x → (mf_ticksUntilAvailable_fl48 σ k u j X x).1 1 i = σ 1 i
  | 0, _, _, h => h.elim
  | j + 1, X, x, h => by
    rw [show mf_ticksUntilAvailable_ok48 σ k u (j + 1) X x = (if u ≤ (m_av_r X (mtn X) k) then True else (if (2000 : Int32) < x then True else ((m_ts_ok (m_po X ((2000 : Int32) - x))) ∧ (mf_ticksUntilAvailable_ok48 σ k u j (m_ts (m_po X ((2000 : Int32) - x))) ((x + (m_po_r X ((2000 : Int32) - x))) + Int32.ofInt (1)))))) from rfl] at h
    have ih := k1_ta (σ := σ) (k := k) (u := u) hi j (m_ts (m_po X ((2000 : Int32) - x))) ((x + (m_po_r X ((2000 : Int32) - x))) + Int32.ofInt (1))
    rw [show mf_ticksUntilAvailable_fl48 σ k u (j + 1) X x = (if u ≤ (m_av_r X (mtn X) k) then ((pr_row X 1 (cp_row (cp_row (σ 1) (σ 2) 5384) (X 1) 5384)), (if x ≤ (2000 : Int32) then x else ((-1) : Int32))) else (if (2000 : Int32) < x then ((pr_row X 1 (cp_row (cp_row (σ 1) (σ 2) 5384) (X 1) 5384)), (if x ≤ (2000 : Int32) then x else ((-1) : Int32))) else (mf_ticksUntilAvailable_fl48 σ k u j (m_ts (m_po X ((2000 : Int32) - x))) ((x + (m_po_r X ((2000 : Int32) - x))) + Int32.ofInt (1))))) from rfl]
    by_cases c : u ≤ (m_av_r X (mtn X) k)
    · rw [if_pos c]
      show pr_row X 1 (cp_row (cp_row (σ 1) (σ 2) 5384) (X 1) 5384) 1 i = _
      rw [pr_row_eq, cp_lt hi, cp_lt hi]
    · rw [if_neg c] at h ⊢
      by_cases c2 : (2000 : Int32) < x
      · rw [if_pos c2]
        show pr_row X 1 (cp_row (cp_row (σ 1) (σ 2) 5384) (X 1) 5384) 1 i = _
        rw [pr_row_eq, cp_lt hi, cp_lt hi]
      · rw [if_neg c2] at h ⊢
        exact ih h.2
theorem k1_tq {σ : pr_I} {i : Nat} (hi : i < 5384) : ∀ (j : Nat) (X : pr_I) (x : Int32), mf_ticksUntilQuiet_ok28 σ j X x → (mf_ticksUntilQuiet_fl28 σ j X x).1 1 i = σ 1 i
  | 0, _, _, h => h.elim
  | j + 1, X, x, h => by
    rw [tqo_s] at h
    have ih := k1_tq (σ := σ) hi j (m_ts (pr_up X 1 0 (x - (1 : Int32)))) (m_ne_r (m_ts (pr_up X 1 0 (x - (1 : Int32)))))
    rw [tq_s]
    by_cases c : x = ((-1) : Int32)
    · rw [if_pos c]
      show pr_row X 1 (cp_row (cp_row (σ 1) (σ 2) 5384) (X 1) 5384) 1 i = _
      rw [pr_row_eq, cp_lt hi, cp_lt hi]
    · rw [if_neg c] at h ⊢
      by_cases c2 : (20000 : Int32) < (x - (σ 1 0))
      · rw [if_pos c2]
        show pr_row X 1 (cp_row (cp_row (σ 1) (σ 2) 5384) (X 1) 5384) 1 i = _
        rw [pr_row_eq, cp_lt hi, cp_lt hi]
      · rw [if_neg c2] at h ⊢
        exact ih h.2
theorem k1_aw {σ : pr_I} {k j : Nat} {z : Int32} (hj : j < 5384) : mf_activeWithout σ k z 1 j = σ 1 j := by
  unfold mf_activeWithout
  by_cases c : (σ 1 (96 + 7 * k + 5)) = (1 : Int32)
  · rw [if_pos c, pr_row_eq, cp_lt hj, cp_lt hj]
  · rw [if_neg c, pr_row_eq, cp_lt hj, cp_lt hj]
theorem k1_tn {σ : pr_I} {s t j : Nat} {u : Int32} (hj : j < 5384) : mf_ticksForNew σ s t u 1 j = σ 1 j := by
  unfold mf_ticksForNew
  by_cases c : (nI (mrn σ)) = (nI 40)
  · rw [if_pos c, pr_upv (by decide)]
  · rw [if_neg c, k1_fn hj, pr_upv (by decide)]
theorem k1_gr {σ : pr_I} {s t j : Nat} (hj : j < 5384) : mf_greatestNew σ s t 1 j = σ 1 j := by
  unfold mf_greatestNew
  by_cases c : (nI (mrn σ)) = (nI 40)
  · rw [if_pos c, pr_upv (by decide)]
  · rw [if_neg c, k1_gn hj, pr_upv (by decide)]
theorem lt_of_nm {j : Nat} (h : j = 6 ∨ (12 ≤ j ∧ j < 96)) : j < 5384 := by omega
theorem kp_setCapacity {μ : pr_I} {k : Nat} {z : Int32} : KPm μ (mf_setCapacity μ k z) := ⟨fun o h1 h2 => fr_mf_setCapacity (by simp only [List.mem_cons, List.not_mem_nil, or_false, forall_eq_or_imp, forall_eq]; omega), fun j hj => z8_mf_setCapacity hj, fun j hj => fv_mf_setCapacity (by omega) (fun m hm => by cases hm)⟩
theorem kp_takeDown {μ : pr_I} {k : Nat} : KPm μ (mf_takeDown μ k) := ⟨fun o h1 h2 => fr_mf_takeDown (by simp only [List.mem_cons, List.not_mem_nil, or_false, forall_eq_or_imp, forall_eq]; omega), fun j hj => z8_mf_takeDown hj, fun j hj => fv_mf_takeDown (by omega) (fun m hm => by cases hm)⟩
theorem kp_bringUp {μ : pr_I} {k : Nat} : KPm μ (mf_bringUp μ k) := ⟨fun o h1 h2 => fr_mf_bringUp (by simp only [List.mem_cons, List.not_mem_nil, or_false, forall_eq_or_imp, forall_eq]; omega), fun j hj => z8_mf_bringUp hj, fun j hj => fv_mf_bringUp (by omega) (fun m hm => by cases hm)⟩
theorem kp_request {μ : pr_I} {s : Nat} {t : Nat} {u : Int32} {q : Int32} : KPm μ (mf_request μ s t u q) := ⟨fun o h1 h2 => fr_mf_request (by simp only [List.mem_cons, List.not_mem_nil, or_false, forall_eq_or_imp, forall_eq]; omega), fun j hj => z8_mf_request hj, fun j hj => fv_mf_request (by omega) (by simp only [List.mem_cons, List.not_mem_nil, or_false, forall_eq_or_imp, forall_eq]; omega)⟩
theorem kp_cancel {μ : pr_I} {k : Nat} : KPm μ (mf_cancel μ k) := ⟨fun o h1 h2 => fr_mf_cancel (by simp only [List.mem_cons, List.not_mem_nil, or_false, forall_eq_or_imp, forall_eq]; omega), fun j hj => z8_mf_cancel hj, fun j hj => fv_mf_cancel (by omega) (fun m hm => by cases hm)⟩
theorem kp_extend {μ : pr_I} {k : Nat} : KPm μ (mf_extend μ k) := ⟨fun o h1 h2 => fr_mf_extend (by simp only [List.mem_cons, List.not_mem_nil, or_false, forall_eq_or_imp, forall_eq]; omega), fun j hj => z8_mf_extend hj, fun j hj => fv_mf_extend (by omega) (fun m hm => by cases hm)⟩
theorem kp_advance {μ : pr_I} {z : Int32} : KPm μ (mf_advance μ z) := ⟨fun o h1 h2 => fr_mf_advance (by simp only [List.mem_cons, List.not_mem_nil, or_false, forall_eq_or_imp, forall_eq]; omega), fun j hj => z8_mf_advance hj, fun j hj => fv_mf_advance (by omega) (by simp only [List.mem_cons, List.not_mem_nil, or_false, forall_eq_or_imp, forall_eq]; omega)⟩
theorem kp_setSetting {μ : pr_I} {c : Nat} {z : Int32} (hc : c ≤ 4) : KPm μ (mf_setSetting μ c z) := ⟨fun o h1 h2 => fr_mf_setSetting (by simp only [List.mem_cons, List.not_mem_nil, or_false, forall_eq_or_imp, forall_eq]; omega), fun j hj => z8_mf_setSetting hj, fun j hj => (pr_upk (by omega)).trans (pr_upv (by decide))⟩
theorem kp_cheapest {μ : pr_I} {s : Nat} {t : Nat} {u : Int32} : KPm μ (mf_cheapest μ s t u) := ⟨fun o h1 h2 => fr_mf_cheapest (by simp only [List.mem_cons, List.not_mem_nil, or_false, forall_eq_or_imp, forall_eq]; omega), fun j hj => z8_mf_cheapest hj, fun j hj => congrFun (fr_mf_cheapest (by decide)) j⟩
theorem kp_roundTrip {μ : pr_I} {s : Nat} {t : Nat} {u : Int32} : KPm μ (mf_roundTrip μ s t u) := ⟨fun o h1 h2 => fr_mf_roundTrip (by simp only [List.mem_cons, List.not_mem_nil, or_false, forall_eq_or_imp, forall_eq]; omega), fun j hj => z8_mf_roundTrip hj, fun j hj => congrFun (fr_mf_roundTrip (by decide)) j⟩
theorem kp_cheapestLink {μ : pr_I} {s : Nat} {t : Nat} {u : Int32} {i : Int32} : KPm μ (mf_cheapestLink μ s t u i) := ⟨fun o h1 h2 => fr_mf_cheapestLink (by simp only [List.mem_cons, List.not_mem_nil, or_false, forall_eq_or_imp, forall_eq]; omega), fun j hj => z8_mf_cheapestLink hj, fun j hj => congrFun (fr_mf_cheapestLink (by decide)) j⟩
theorem kp_neededHold {μ : pr_I} {s : Nat} {t : Nat} {u : Int32} : KPm μ (mf_neededHold μ s t u) := ⟨fun o h1 h2 => fr_mf_neededHold (by simp only [List.mem_cons, List.not_mem_nil, or_false, forall_eq_or_imp, forall_eq]; omega), fun j hj => z8_mf_neededHold hj, fun j hj => congrFun (fr_mf_neededHold (by decide)) j⟩
theorem kp_widest {μ : pr_I} {s : Nat} {t : Nat} : KPm μ (mf_widest μ s t) := ⟨fun o h1 h2 => fr_mf_widest (by simp only [List.mem_cons, List.not_mem_nil, or_false, forall_eq_or_imp, forall_eq]; omega), fun j hj => z8_mf_widest hj, fun j hj => congrFun (fr_mf_widest (by decide)) j⟩
theorem kp_criticalLinks {μ : pr_I} {s : Nat} {t : Nat} {u : Int32} : KPm μ (mf_criticalLinks μ s t u) := ⟨fun o h1 h2 => fr_mf_criticalLinks (by simp only [List.mem_cons, List.not_mem_nil, or_false, forall_eq_or_imp, forall_eq]; omega), fun j hj => z8_mf_criticalLinks hj, fun j hj => congrFun (fr_mf_criticalLinks (by decide)) j⟩
theorem kp_greatestFlow {μ : pr_I} {s : Nat} {t : Nat} : KPm μ (mf_greatestFlow μ s t) := ⟨fun o h1 h2 => fr_mf_greatestFlow (by simp only [List.mem_cons, List.not_mem_nil, or_false, forall_eq_or_imp, forall_eq]; omega), fun j hj => z8_mf_greatestFlow hj, fun j hj => congrFun (fr_mf_greatestFlow (by decide)) j⟩
theorem kp_smallestCut {μ : pr_I} {s : Nat} {t : Nat} : KPm μ (mf_smallestCut μ s t) := ⟨fun o h1 h2 => fr_mf_smallestCut (by simp only [List.mem_cons, List.not_mem_nil, or_false, forall_eq_or_imp, forall_eq]; omega), fun j hj => z8_mf_smallestCut hj, fun j hj => congrFun (fr_mf_smallestCut (by decide)) j⟩
theorem kp_disjointPaths {μ : pr_I} {s : Nat} {t : Nat} {u : Int32} : KPm μ (mf_disjointPaths μ s t u) := ⟨fun o h1 h2 => fr_mf_disjointPaths (by simp only [List.mem_cons, List.not_mem_nil, or_false, forall_eq_or_imp, forall_eq]; omega), fun j hj => z8_mf_disjointPaths hj, fun j hj => congrFun (fr_mf_disjointPaths (by decide)) j⟩
theorem kp_ticksUntilActive {μ : pr_I} {k : Nat} : KPm μ (mf_ticksUntilActive μ k) := ⟨fun o h1 h2 => fr_mf_ticksUntilActive (by simp only [List.mem_cons, List.not_mem_nil, or_false, forall_eq_or_imp, forall_eq]; omega), fun j hj => z8_mf_ticksUntilActive hj, fun j hj => by unfold mf_ticksUntilActive; rw [pr_row_eq, cp_lt (lt_of_nm hj), cp_lt (lt_of_nm hj)]⟩
theorem kp_revenueAfter {μ : pr_I} {z : Int32} : KPm μ (mf_revenueAfter μ z) := ⟨fun o h1 h2 => fr_mf_revenueAfter (by simp only [List.mem_cons, List.not_mem_nil, or_false, forall_eq_or_imp, forall_eq]; omega), fun j hj => z8_mf_revenueAfter hj, fun j hj => by unfold mf_revenueAfter; rw [pr_row_eq, cp_lt (lt_of_nm hj), cp_lt (lt_of_nm hj)]⟩
theorem kp_availableAfter {μ : pr_I} {k : Nat} {z : Int32} : KPm μ (mf_availableAfter μ k z) := ⟨fun o h1 h2 => fr_mf_availableAfter (by simp only [List.mem_cons, List.not_mem_nil, or_false, forall_eq_or_imp, forall_eq]; omega), fun j hj => z8_mf_availableAfter hj, fun j hj => by unfold mf_availableAfter; rw [pr_row_eq, cp_lt (lt_of_nm hj), cp_lt (lt_of_nm hj)]⟩
theorem kp_stateAfter {μ : pr_I} {k : Nat} {z : Int32} : KPm μ (mf_stateAfter μ k z) := ⟨fun o h1 h2 => fr_mf_stateAfter (by simp only [List.mem_cons, List.not_mem_nil, or_false, forall_eq_or_imp, forall_eq]; omega), fun j hj => z8_mf_stateAfter hj, fun j hj => by unfold mf_stateAfter; rw [pr_row_eq, cp_lt (lt_of_nm hj), cp_lt (lt_of_nm hj)]⟩
theorem kp_activeWithout {μ : pr_I} {k : Nat} {z : Int32} : KPm μ (mf_activeWithout μ k z) := ⟨fun o h1 h2 => fr_mf_activeWithout (by simp only [List.mem_cons, List.not_mem_nil, or_false, forall_eq_or_imp, forall_eq]; omega), fun j hj => z8_mf_activeWithout hj, fun j hj => k1_aw (lt_of_nm hj)⟩
theorem kp_ticksForNew {μ : pr_I} {s : Nat} {t : Nat} {u : Int32} : KPm μ (mf_ticksForNew μ s t u) := ⟨fun o h1 h2 => fr_mf_ticksForNew (by simp only [List.mem_cons, List.not_mem_nil, or_false, forall_eq_or_imp, forall_eq]; omega), fun j hj => z8_mf_ticksForNew hj, fun j hj => k1_tn (lt_of_nm hj)⟩
theorem kp_greatestNew {μ : pr_I} {s : Nat} {t : Nat} : KPm μ (mf_greatestNew μ s t) := ⟨fun o h1 h2 => fr_mf_greatestNew (by simp only [List.mem_cons, List.not_mem_nil, or_false, forall_eq_or_imp, forall_eq]; omega), fun j hj => z8_mf_greatestNew hj, fun j hj => k1_gr (lt_of_nm hj)⟩
theorem kp_ticksUntilAvailable {μ : pr_I} {k : Nat} {u : Int32} (hok : mf_ticksUntilAvailable_ok48 μ k u (sl 2002) (pr_row (pr_up μ 0 6 (0 : Int32)) 2 (cp_row (μ 1) (μ 2) 5384)) (0 : Int32)) : KPm μ (mf_ticksUntilAvailable μ k u) := ⟨fun o h1 h2 => fr_mf_ticksUntilAvailable (by simp only [List.mem_cons, List.not_mem_nil, or_false, forall_eq_or_imp, forall_eq]; omega), fun j hj => z8_mf_ticksUntilAvailable hj, fun j hj => k1_ta (lt_of_nm hj) _ _ _ hok⟩
theorem kp_ticksUntilQuiet {μ : pr_I} (hok : mf_ticksUntilQuiet_ok28 μ (sl 20001) (pr_row (pr_up μ 0 6 (0 : Int32)) 2 (cp_row (μ 1) (μ 2) 5384)) (m_ne_r (pr_row (pr_up μ 0 6 (0 : Int32)) 2 (cp_row (μ 1) (μ 2) 5384)))) : KPm μ (mf_ticksUntilQuiet μ) := ⟨fun o h1 h2 => fr_mf_ticksUntilQuiet (by simp only [List.mem_cons, List.not_mem_nil, or_false, forall_eq_or_imp, forall_eq]; omega), fun j hj => z8_mf_ticksUntilQuiet hj, fun j hj => k1_tq (lt_of_nm hj) _ _ _ hok⟩
/-! the flow's bounds -/
theorem flI_greatestFlow {φ τ : pr_I} {s t : Nat} (h : fl_I φ) (w : wI τ) (hs : s < ndn τ) : fl_I (fx_greatestFlow φ τ s t) :=
  fl_I_fi (wI_nl24 w) (wI_L w) (nI_vin (by have := wI_nn12 w; omega) (by decide)) (h.keep (fr_fl_av (by decide)) (fr_fl_av (by decide)))
theorem flI_smallestCut {φ τ : pr_I} {s t : Nat} (h : fl_I φ) (w : wI τ) (hs : s < ndn τ) : fl_I (fx_smallestCut φ τ s t) :=
  fl_I_fi (wI_nl24 w) (wI_L w) (nI_vin (by have := wI_nn12 w; omega) (by decide)) (h.keep (fr_fl_av (by decide)) (fr_fl_av (by decide)))
theorem flI_disjointPaths {φ τ : pr_I} {s t : Nat} {u : Int32} (h : fl_I φ) (w : wI τ) (hs : s < ndn τ) : fl_I (fx_disjointPaths φ τ s t u) :=
  fl_I_fi (wI_nl24 w) (wI_L w) (nI_vin (by have := wI_nn12 w; omega) (by decide)) (h.keep (fr_fl_one (by decide)) (fr_fl_one (by decide)))
theorem cancel_ne {σ μ : pr_I} (h : WT σ μ) (tx : Tx σ) {k : Nat} (hk : k < rqn σ) {i : Nat} (hi : i < tkn σ) : ((mf_cancel_it45 μ k i).1 1 (264 + 28 * k + 3)).toInt64 ≠ 0 := by
  have C := can_loop h tx (n := tkn σ) hk can_ab i (Nat.le_of_lt hi)
  obtain ⟨n1, n2, n3⟩ := ra_n (σ := σ) (n := tkn σ) (r := nI k) (a := can_a σ k) (b := can_b σ k) (p := σ 119 4) (k := i)
  have rr : k < rqn (w_ra_it6 σ (tkn σ) (nI k) (can_a σ k) (can_b σ k) (σ 119 4) i).1 := by rw [n2]; exact hk
  have e3 : σ 22 k = (mf_cancel_it45 μ k i).1 1 (264 + 28 * k + 3) := by rw [← C.req rr (c := 3) (by decide), fr_w_ra_it6 (o := 22) (by decide)]
  rw [← e3]
  exact span_ne (le_i.mpr ((h.1.rq k hk).2.2.2.2).1)
