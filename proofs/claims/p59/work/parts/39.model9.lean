theorem mI_m_fi {σ : pr_I} {s t u : Int32} (hI : mI σ) (hs : vp_in s 12) : mI (m_fi σ s t u) := by
  have h1 : mI (m_lp σ t u) := mI_89 hI (fun h => fr_m_lp h)
  have h2 : vp_in (0 : Int32) 13 := nI_vin (k := 0) (n := 13) (by decide) (by decide)
  unfold m_fi
  exact I_ite (P := mI) (h1.upv (B := 13) rfl h2) (fi_I hI hs (sl 12) (by have := sl_eq 12; omega)).1
noncomputable def m_at_it62 (σ : pr_I) (r : Nat) : Nat → pr_I
  | 0 => (pr_up (m_fi σ (σ 1 (264 + 28 * r + 0)) (σ 1 (264 + 28 * r + 1)) ((m_up_r σ (mln σ)) &&& ((σ 1 (264 + 28 * r + 9)) ^^^ ((-1) : Int32)))) 1 (264 + 28 * r + 13) ((m_fi σ (σ 1 (264 + 28 * r + 0)) (σ 1 (264 + 28 * r + 1)) ((m_up_r σ (mln σ)) &&& ((σ 1 (264 + 28 * r + 9)) ^^^ ((-1) : Int32)))) 0 17))
  | k + 1 => (pr_up (m_at_it62 σ r k) 1 (264 + 28 * r + (15 + k)) ((m_fi σ (σ 1 (264 + 28 * r + 0)) (σ 1 (264 + 28 * r + 1)) ((m_up_r σ (mln σ)) &&& ((σ 1 (264 + 28 * r + 9)) ^^^ ((-1) : Int32)))) 10 k))
theorem fr_m_at_it62 {σ : pr_I} {r : Nat} {o : Nat} (hms : ∀ m ∈ ([1] : List Nat), o ≠ m) : ∀ {k : Nat}, (m_at_it62 σ r k) o = (pr_up (m_fi σ (σ 1 (264 + 28 * r + 0)) (σ 1 (264 + 28 * r + 1)) ((m_up_r σ (mln σ)) &&& ((σ 1 (264 + 28 * r + 9)) ^^^ ((-1) : Int32)))) 1 (264 + 28 * r + 13) ((m_fi σ (σ 1 (264 + 28 * r + 0)) (σ 1 (264 + 28 * r + 1)) ((m_up_r σ (mln σ)) &&& ((σ 1 (264 + 28 * r + 9)) ^^^ ((-1) : Int32)))) 0 17)) o := by
  simp only [List.mem_cons, List.not_mem_nil, or_false, forall_eq_or_imp, forall_eq] at hms
  intro k
  induction k with
  | zero =>
    show (pr_up (m_fi σ (σ 1 (264 + 28 * r + 0)) (σ 1 (264 + 28 * r + 1)) ((m_up_r σ (mln σ)) &&& ((σ 1 (264 + 28 * r + 9)) ^^^ ((-1) : Int32)))) 1 (264 + 28 * r + 13) ((m_fi σ (σ 1 (264 + 28 * r + 0)) (σ 1 (264 + 28 * r + 1)) ((m_up_r σ (mln σ)) &&& ((σ 1 (264 + 28 * r + 9)) ^^^ ((-1) : Int32)))) 0 17)) o = (pr_up (m_fi σ (σ 1 (264 + 28 * r + 0)) (σ 1 (264 + 28 * r + 1)) ((m_up_r σ (mln σ)) &&& ((σ 1 (264 + 28 * r + 9)) ^^^ ((-1) : Int32)))) 1 (264 + 28 * r + 13) ((m_fi σ (σ 1 (264 + 28 * r + 0)) (σ 1 (264 + 28 * r + 1)) ((m_up_r σ (mln σ)) &&& ((σ 1 (264 + 28 * r + 9)) ^^^ ((-1) : Int32)))) 0 17)) o
    rfl
  | succ k ih =>
    show (pr_up (m_at_it62 σ r k) 1 (264 + 28 * r + (15 + k)) ((m_fi σ (σ 1 (264 + 28 * r + 0)) (σ 1 (264 + 28 * r + 1)) ((m_up_r σ (mln σ)) &&& ((σ 1 (264 + 28 * r + 9)) ^^^ ((-1) : Int32)))) 10 k)) o = (pr_up (m_fi σ (σ 1 (264 + 28 * r + 0)) (σ 1 (264 + 28 * r + 1)) ((m_up_r σ (mln σ)) &&& ((σ 1 (264 + 28 * r + 9)) ^^^ ((-1) : Int32)))) 1 (264 + 28 * r + 13) ((m_fi σ (σ 1 (264 + 28 * r + 0)) (σ 1 (264 + 28 * r + 1)) ((m_up_r σ (mln σ)) &&& ((σ 1 (264 + 28 * r + 9)) ^^^ ((-1) : Int32)))) 0 17)) o
    rw [pr_up_ne (by omega), ih]
theorem fw_m_at_it62 {σ : pr_I} {r : Nat} {j0 : Nat} (hj : j0 < 12) (hmw : ∀ m ∈ ([] : List Nat), j0 ≠ m) : ∀ {k : Nat}, (m_at_it62 σ r k) 1 j0 = (pr_up (m_fi σ (σ 1 (264 + 28 * r + 0)) (σ 1 (264 + 28 * r + 1)) ((m_up_r σ (mln σ)) &&& ((σ 1 (264 + 28 * r + 9)) ^^^ ((-1) : Int32)))) 1 (264 + 28 * r + 13) ((m_fi σ (σ 1 (264 + 28 * r + 0)) (σ 1 (264 + 28 * r + 1)) ((m_up_r σ (mln σ)) &&& ((σ 1 (264 + 28 * r + 9)) ^^^ ((-1) : Int32)))) 0 17)) 1 j0 := by
  intro k
  induction k with
  | zero => rfl
  | succ k ih =>
    show (pr_up (m_at_it62 σ r k) 1 (264 + 28 * r + (15 + k)) ((m_fi σ (σ 1 (264 + 28 * r + 0)) (σ 1 (264 + 28 * r + 1)) ((m_up_r σ (mln σ)) &&& ((σ 1 (264 + 28 * r + 9)) ^^^ ((-1) : Int32)))) 10 k)) 1 j0 = (pr_up (m_fi σ (σ 1 (264 + 28 * r + 0)) (σ 1 (264 + 28 * r + 1)) ((m_up_r σ (mln σ)) &&& ((σ 1 (264 + 28 * r + 9)) ^^^ ((-1) : Int32)))) 1 (264 + 28 * r + 13) ((m_fi σ (σ 1 (264 + 28 * r + 0)) (σ 1 (264 + 28 * r + 1)) ((m_up_r σ (mln σ)) &&& ((σ 1 (264 + 28 * r + 9)) ^^^ ((-1) : Int32)))) 0 17)) 1 j0
    exact ((pr_upk (by omega)).trans ih)

noncomputable def m_at (σ : pr_I) (r : Nat) : pr_I := (if (m_fi_r σ (σ 1 (264 + 28 * r + 0)) (σ 1 (264 + 28 * r + 1)) ((m_up_r σ (mln σ)) &&& ((σ 1 (264 + 28 * r + 9)) ^^^ ((-1) : Int32)))) = 0 then (pr_up (pr_up (m_fi σ (σ 1 (264 + 28 * r + 0)) (σ 1 (264 + 28 * r + 1)) ((m_up_r σ (mln σ)) &&& ((σ 1 (264 + 28 * r + 9)) ^^^ ((-1) : Int32)))) 1 (264 + 28 * r + 4) (4 : Int32)) 1 (264 + 28 * r + 6) ((-1) : Int32)) else (pr_up (pr_up (pr_up (m_at_it62 σ r (((m_fi σ (σ 1 (264 + 28 * r + 0)) (σ 1 (264 + 28 * r + 1)) ((m_up_r σ (mln σ)) &&& ((σ 1 (264 + 28 * r + 9)) ^^^ ((-1) : Int32)))) 0 17).toNatClampNeg)) 1 (264 + 28 * r + 4) (0 : Int32)) 1 (264 + 28 * r + 14) (0 : Int32)) 1 (264 + 28 * r + 6) (σ 1 0)))
theorem fr_m_at {σ : pr_I} {r : Nat} {o : Nat} (hms : ∀ m ∈ ([0, 1, 8, 9, 10] : List Nat), o ≠ m) : m_at σ r o = σ o := by
  unfold m_at
  simp only [List.mem_cons, List.not_mem_nil, or_false, forall_eq_or_imp, forall_eq] at hms
  by_cases c_30 : (m_fi_r σ (σ 1 (264 + 28 * r + 0)) (σ 1 (264 + 28 * r + 1)) ((m_up_r σ (mln σ)) &&& ((σ 1 (264 + 28 * r + 9)) ^^^ ((-1) : Int32)))) = 0
  · refine (congrFun (if_pos c_30) o).trans ?_
    rw [pr_up_ne (by omega), pr_up_ne (by omega), fr_m_fi (by simp only [List.mem_cons, List.not_mem_nil, or_false, forall_eq_or_imp, forall_eq]; omega)]
  · refine (congrFun (if_neg c_30) o).trans ?_
    rw [pr_up_ne (by omega), pr_up_ne (by omega), pr_up_ne (by omega), fr_m_at_it62 (by simp only [List.mem_cons, List.not_mem_nil, or_false, forall_eq_or_imp, forall_eq]; omega), pr_up_ne (by omega), fr_m_fi (by simp only [List.mem_cons, List.not_mem_nil, or_false, forall_eq_or_imp, forall_eq]; omega)]

theorem fw_m_at {σ : pr_I} {r : Nat} {j0 : Nat} (hj : j0 < 12) (hmw : ∀ m ∈ ([] : List Nat), j0 ≠ m) : m_at σ r 1 j0 = σ 1 j0 := by
  unfold m_at
  by_cases c_30 : (m_fi_r σ (σ 1 (264 + 28 * r + 0)) (σ 1 (264 + 28 * r + 1)) ((m_up_r σ (mln σ)) &&& ((σ 1 (264 + 28 * r + 9)) ^^^ ((-1) : Int32)))) = 0
  · rw [if_pos c_30]
    exact ((pr_upk (by omega)).trans ((pr_upk (by omega)).trans (congrFun (fr_m_fi (by decide)) _)))
  · rw [if_neg c_30]
    exact ((pr_upk (by omega)).trans ((pr_upk (by omega)).trans ((pr_upk (by omega)).trans ((fw_m_at_it62 hj (fun m hm => by cases hm)).trans ((pr_upk (by omega)).trans (congrFun (fr_m_fi (by decide)) _))))))
