def m_at_ok (σ : pr_I) (r : Nat) : Prop := m_lp_it51_e σ (σ 1 (264 + 28 * r + 1)) ((m_up_r σ (mln σ)) &&& ((σ 1 (264 + 28 * r + 9)) ^^^ ((-1) : Int32))) (sl 13) = true ∧ (¬ (m_lp σ (σ 1 (264 + 28 * r + 1)) ((m_up_r σ (mln σ)) &&& ((σ 1 (264 + 28 * r + 9)) ^^^ ((-1) : Int32)))) 8 (σ 1 (264 + 28 * r + 0)).toNatClampNeg = (1000000000 : Int32) → m_fi_it27_e σ (σ 1 (264 + 28 * r + 0)) (σ 1 (264 + 28 * r + 1)) ((m_up_r σ (mln σ)) &&& ((σ 1 (264 + 28 * r + 9)) ^^^ ((-1) : Int32))) (sl 12) = true) ∧ (¬ (m_lp σ (σ 1 (264 + 28 * r + 1)) ((m_up_r σ (mln σ)) &&& ((σ 1 (264 + 28 * r + 9)) ^^^ ((-1) : Int32)))) 8 (σ 1 (264 + 28 * r + 0)).toNatClampNeg = (1000000000 : Int32) → ∀ k, ¬ (m_fi_it27 σ (σ 1 (264 + 28 * r + 0)) (σ 1 (264 + 28 * r + 1)) ((m_up_r σ (mln σ)) &&& ((σ 1 (264 + 28 * r + 9)) ^^^ ((-1) : Int32))) k).2 = (σ 1 (264 + 28 * r + 1)) → m_fi_it36_e σ (m_fi_it27 σ (σ 1 (264 + 28 * r + 0)) (σ 1 (264 + 28 * r + 1)) ((m_up_r σ (mln σ)) &&& ((σ 1 (264 + 28 * r + 9)) ^^^ ((-1) : Int32))) k).1 (σ 1 (264 + 28 * r + 0)) (σ 1 (264 + 28 * r + 1)) ((m_up_r σ (mln σ)) &&& ((σ 1 (264 + 28 * r + 9)) ^^^ ((-1) : Int32))) k ((m_fi_it27 σ (σ 1 (264 + 28 * r + 0)) (σ 1 (264 + 28 * r + 1)) ((m_up_r σ (mln σ)) &&& ((σ 1 (264 + 28 * r + 9)) ^^^ ((-1) : Int32))) k).2) (sl 23) = true) ∧ vp_in ((m_fi σ (σ 1 (264 + 28 * r + 0)) (σ 1 (264 + 28 * r + 1)) ((m_up_r σ (mln σ)) &&& ((σ 1 (264 + 28 * r + 9)) ^^^ ((-1) : Int32)))) 0 17) 12
noncomputable def m_tr_it0 (σ : pr_I) (r : Nat) : Nat → pr_I
  | 0 => σ
  | k + 1 => (if ((m_tr_it0 σ r k) 1 (264 + 28 * r + 6)) = (σ 1 0) then (if ((m_tr_it0 σ r k) 1 (264 + 28 * r + 4)) = (7 : Int32) then (m_at (m_tr_it0 σ r k) r) else (if ((m_tr_it0 σ r k) 1 (264 + 28 * r + 4)) = 0 then (m_fw (m_tr_it0 σ r k) r) else (m_bk (m_tr_it0 σ r k) r))) else (m_tr_it0 σ r k))
theorem fr_m_tr_it0 {σ : pr_I} {r : Nat} {o : Nat} (hms : ∀ m ∈ ([0, 1, 8, 9, 10] : List Nat), o ≠ m) : ∀ {k : Nat}, (m_tr_it0 σ r k) o = σ o := by
  simp only [List.mem_cons, List.not_mem_nil, or_false, forall_eq_or_imp, forall_eq] at hms
  intro k
  induction k with
  | zero =>
    show σ o = σ o
    rfl
  | succ k ih =>
    by_cases c_13 : ((m_tr_it0 σ r k) 1 (264 + 28 * r + 6)) = (σ 1 0)
    · refine (congrFun (congrArg (fun z : pr_I => z) (if_pos c_13)) o).trans ?_
      by_cases c_24 : ((m_tr_it0 σ r k) 1 (264 + 28 * r + 4)) = (7 : Int32)
      · refine (congrFun (congrArg (fun z : pr_I => z) (if_pos c_24)) o).trans ?_
        show (m_at (m_tr_it0 σ r k) r) o = σ o
        rw [fr_m_at (by simp only [List.mem_cons, List.not_mem_nil, or_false, forall_eq_or_imp, forall_eq]; omega), ih]
      · refine (congrFun (congrArg (fun z : pr_I => z) (if_neg c_24)) o).trans ?_
        by_cases c_41 : ((m_tr_it0 σ r k) 1 (264 + 28 * r + 4)) = 0
        · refine (congrFun (congrArg (fun z : pr_I => z) (if_pos c_41)) o).trans ?_
          show (m_fw (m_tr_it0 σ r k) r) o = σ o
          rw [fr_m_fw (by simp only [List.mem_cons, List.not_mem_nil, or_false, forall_eq_or_imp, forall_eq]; omega), ih]
        · refine (congrFun (congrArg (fun z : pr_I => z) (if_neg c_41)) o).trans ?_
          show (m_bk (m_tr_it0 σ r k) r) o = σ o
          rw [fr_m_bk (by simp only [List.mem_cons, List.not_mem_nil, or_false, forall_eq_or_imp, forall_eq]; omega), ih]
    · refine (congrFun (congrArg (fun z : pr_I => z) (if_neg c_13)) o).trans ?_
      show (m_tr_it0 σ r k) o = σ o
      rw [ih]
theorem fw_m_tr_it0 {σ : pr_I} {r : Nat} {j0 : Nat} (hj : j0 < 12) (hmw : ∀ m ∈ ([9] : List Nat), j0 ≠ m) : ∀ {k : Nat}, (m_tr_it0 σ r k) 1 j0 = σ 1 j0 := by
  simp only [List.mem_cons, List.not_mem_nil, or_false, forall_eq_or_imp, forall_eq] at hmw
  intro k
  induction k with
  | zero => rfl
  | succ k ih =>
    by_cases c_13 : ((m_tr_it0 σ r k) 1 (264 + 28 * r + 6)) = (σ 1 0)
    · refine (congrArg (fun z : pr_I => z 1 j0) (if_pos c_13)).trans ?_
      by_cases c_24 : ((m_tr_it0 σ r k) 1 (264 + 28 * r + 4)) = (7 : Int32)
      · refine (congrArg (fun z : pr_I => z 1 j0) (if_pos c_24)).trans ?_
        show (m_at (m_tr_it0 σ r k) r) 1 j0 = σ 1 j0
        exact ((fw_m_at hj (fun m hm => by cases hm)).trans ih)
      · refine (congrArg (fun z : pr_I => z 1 j0) (if_neg c_24)).trans ?_
        by_cases c_41 : ((m_tr_it0 σ r k) 1 (264 + 28 * r + 4)) = 0
        · refine (congrArg (fun z : pr_I => z 1 j0) (if_pos c_41)).trans ?_
          show (m_fw (m_tr_it0 σ r k) r) 1 j0 = σ 1 j0
          exact ((fw_m_fw hj (by simp only [List.mem_cons, List.not_mem_nil, or_false, forall_eq_or_imp, forall_eq]; omega)).trans ih)
        · refine (congrArg (fun z : pr_I => z 1 j0) (if_neg c_41)).trans ?_
          show (m_bk (m_tr_it0 σ r k) r) 1 j0 = σ 1 j0
          exact ((fw_m_bk hj (fun m hm => by cases hm)).trans ih)
    · refine (congrArg (fun z : pr_I => z 1 j0) (if_neg c_13)).trans ?_
      show (m_tr_it0 σ r k) 1 j0 = σ 1 j0
      exact ih

noncomputable def m_tr_it0_e (σ : pr_I) (r : Nat) (k : Nat) : Bool := (if ((m_tr_it0 σ r k) 1 (264 + 28 * r + 6)) = (σ 1 0) then (if ((m_tr_it0 σ r k) 1 (264 + 28 * r + 4)) = (7 : Int32) then false else (if ((m_tr_it0 σ r k) 1 (264 + 28 * r + 4)) = 0 then false else false)) else true)
theorem st_m_tr_it0_13 {σ : pr_I} {r : Nat} {k : Nat} (c_13 : ¬ (((m_tr_it0 σ r k) 1 (264 + 28 * r + 6)) = (σ 1 0))) : ∀ j, m_tr_it0 σ r (k + j) = m_tr_it0 σ r k
  | 0 => rfl
  | j + 1 => by
    have ih := st_m_tr_it0_13 c_13 j
    show m_tr_it0 σ r ((k + j) + 1) = m_tr_it0 σ r k
    simp only [m_tr_it0, ih, if_neg c_13]
noncomputable def m_tr (σ : pr_I) (r : Nat) : pr_I := (m_tr_it0 σ r (sl 5))
theorem mI_m_tr_it0 {σ : pr_I} {r : Nat} (hr : r < 40) (hI : mI σ) (hat : ∀ k, (m_tr_it0 σ r k) 1 (264 + 28 * r + 6) = σ 1 0 → (m_tr_it0 σ r k) 1 (264 + 28 * r + 4) = (7 : Int32) → m_at_ok (m_tr_it0 σ r k) r) (hfw : ∀ k, (m_tr_it0 σ r k) 1 (264 + 28 * r + 6) = σ 1 0 → (m_tr_it0 σ r k) 1 (264 + 28 * r + 4) = 0 → ¬ (m_tr_it0 σ r k) 1 (264 + 28 * r + 14) = (m_tr_it0 σ r k) 1 (264 + 28 * r + 13) → vp_in ((m_tr_it0 σ r k) 1 (264 + 28 * r + 14)) 11) (hbk : ∀ k, (m_tr_it0 σ r k) 1 (264 + 28 * r + 6) = σ 1 0 → ¬ (m_tr_it0 σ r k) 1 (264 + 28 * r + 4) = (7 : Int32) → ¬ (m_tr_it0 σ r k) 1 (264 + 28 * r + 4) = 0 → vp_in (m_tof_r (m_tr_it0 σ r k) r ((m_tr_it0 σ r k) 1 (264 + 28 * r + (15 + (((m_tr_it0 σ r k) 1 (264 + 28 * r + 14)).toNatClampNeg - 1))))) 500) : ∀ k, mI (m_tr_it0 σ r k)
  | 0 => hI
  | k + 1 => by
    have ih := mI_m_tr_it0 hr hI hat hfw hbk k
    unfold m_tr_it0
    exact I_iteh (P := mI) (fun c => I_iteh (P := mI) (fun d => mI_m_at hr (hat k c d).2.2.2 ih) (fun d => I_iteh (P := mI) (fun e => mI_m_fw hr (hfw k c e) ih) (fun e => mI_m_bk hr (hbk k c d e) ih))) (fun _ => ih)
theorem fr_m_tr {σ : pr_I} {r : Nat} {o : Nat} (hms : ∀ m ∈ ([0, 1, 8, 9, 10] : List Nat), o ≠ m) : m_tr σ r o = σ o := by
  unfold m_tr
  simp only [List.mem_cons, List.not_mem_nil, or_false, forall_eq_or_imp, forall_eq] at hms
  rw [fr_m_tr_it0 (by simp only [List.mem_cons, List.not_mem_nil, or_false, forall_eq_or_imp, forall_eq]; omega)]

theorem fw_m_tr {σ : pr_I} {r : Nat} {j0 : Nat} (hj : j0 < 12) (hmw : ∀ m ∈ ([9] : List Nat), j0 ≠ m) : m_tr σ r 1 j0 = σ 1 j0 := by
  simp only [List.mem_cons, List.not_mem_nil, or_false, forall_eq_or_imp, forall_eq] at hmw
  unfold m_tr
  exact (fw_m_tr_it0 hj (by simp only [List.mem_cons, List.not_mem_nil, or_false, forall_eq_or_imp, forall_eq]; omega))
