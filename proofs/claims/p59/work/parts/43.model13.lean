def m_tr_ok (σ : pr_I) (r : Nat) : Prop := (∀ k, (m_tr_it0 σ r k) 1 (264 + 28 * r + 6) = σ 1 0 → (m_tr_it0 σ r k) 1 (264 + 28 * r + 4) = (7 : Int32) → m_at_ok (m_tr_it0 σ r k) r) ∧ (∀ k, (m_tr_it0 σ r k) 1 (264 + 28 * r + 6) = σ 1 0 → (m_tr_it0 σ r k) 1 (264 + 28 * r + 4) = 0 → ¬ (m_tr_it0 σ r k) 1 (264 + 28 * r + 14) = (m_tr_it0 σ r k) 1 (264 + 28 * r + 13) → vp_in ((m_tr_it0 σ r k) 1 (264 + 28 * r + 14)) 11) ∧ (∀ k, (m_tr_it0 σ r k) 1 (264 + 28 * r + 6) = σ 1 0 → ¬ (m_tr_it0 σ r k) 1 (264 + 28 * r + 4) = (7 : Int32) → ¬ (m_tr_it0 σ r k) 1 (264 + 28 * r + 4) = 0 → vp_in (m_tof_r (m_tr_it0 σ r k) r ((m_tr_it0 σ r k) 1 (264 + 28 * r + (15 + (((m_tr_it0 σ r k) 1 (264 + 28 * r + 14)).toNatClampNeg - 1))))) 500) ∧ m_tr_it0_e σ r (sl 5) = true
noncomputable def m_ts_it12 (σ : pr_I) : Nat → pr_I
  | 0 => (pr_up σ 1 0 ((σ 1 0) + (1 : Int32)))
  | k + 1 => (if ((m_ts_it12 σ k) 1 (1384 + 8 * k + 5)) = 0 then (if ((m_ts_it12 σ k) 1 (1384 + 8 * k + 4)) = ((σ 1 0) + (1 : Int32)) then (m_exp (m_ts_it12 σ k) k) else (m_ts_it12 σ k)) else (m_ts_it12 σ k))
theorem fr_m_ts_it12 {σ : pr_I} {o : Nat} (hms : ∀ m ∈ ([1] : List Nat), o ≠ m) : ∀ {k : Nat}, (m_ts_it12 σ k) o = (pr_up σ 1 0 ((σ 1 0) + (1 : Int32))) o := by
  simp only [List.mem_cons, List.not_mem_nil, or_false, forall_eq_or_imp, forall_eq] at hms
  intro k
  induction k with
  | zero =>
    show (pr_up σ 1 0 ((σ 1 0) + (1 : Int32))) o = (pr_up σ 1 0 ((σ 1 0) + (1 : Int32))) o
    rfl
  | succ k ih =>
    by_cases c_29 : ((m_ts_it12 σ k) 1 (1384 + 8 * k + 5)) = 0
    · refine (congrFun (congrArg (fun z : pr_I => z) (if_pos c_29)) o).trans ?_
      by_cases c_44 : ((m_ts_it12 σ k) 1 (1384 + 8 * k + 4)) = ((σ 1 0) + (1 : Int32))
      · refine (congrFun (congrArg (fun z : pr_I => z) (if_pos c_44)) o).trans ?_
        show (m_exp (m_ts_it12 σ k) k) o = (pr_up σ 1 0 ((σ 1 0) + (1 : Int32))) o
        rw [fr_m_exp (by simp only [List.mem_cons, List.not_mem_nil, or_false, forall_eq_or_imp, forall_eq]; omega), ih]
      · refine (congrFun (congrArg (fun z : pr_I => z) (if_neg c_44)) o).trans ?_
        show (m_ts_it12 σ k) o = (pr_up σ 1 0 ((σ 1 0) + (1 : Int32))) o
        rw [ih]
    · refine (congrFun (congrArg (fun z : pr_I => z) (if_neg c_29)) o).trans ?_
      show (m_ts_it12 σ k) o = (pr_up σ 1 0 ((σ 1 0) + (1 : Int32))) o
      rw [ih]
theorem fw_m_ts_it12 {σ : pr_I} {j0 : Nat} (hj : j0 < 12) (hmw : ∀ m ∈ ([] : List Nat), j0 ≠ m) : ∀ {k : Nat}, (m_ts_it12 σ k) 1 j0 = (pr_up σ 1 0 ((σ 1 0) + (1 : Int32))) 1 j0 := by
  intro k
  induction k with
  | zero => rfl
  | succ k ih =>
    by_cases c_29 : ((m_ts_it12 σ k) 1 (1384 + 8 * k + 5)) = 0
    · refine (congrArg (fun z : pr_I => z 1 j0) (if_pos c_29)).trans ?_
      by_cases c_44 : ((m_ts_it12 σ k) 1 (1384 + 8 * k + 4)) = ((σ 1 0) + (1 : Int32))
      · refine (congrArg (fun z : pr_I => z 1 j0) (if_pos c_44)).trans ?_
        show (m_exp (m_ts_it12 σ k) k) 1 j0 = (pr_up σ 1 0 ((σ 1 0) + (1 : Int32))) 1 j0
        exact ((fw_m_exp hj (fun m hm => by cases hm)).trans ih)
      · refine (congrArg (fun z : pr_I => z 1 j0) (if_neg c_44)).trans ?_
        show (m_ts_it12 σ k) 1 j0 = (pr_up σ 1 0 ((σ 1 0) + (1 : Int32))) 1 j0
        exact ih
    · refine (congrArg (fun z : pr_I => z 1 j0) (if_neg c_29)).trans ?_
      show (m_ts_it12 σ k) 1 j0 = (pr_up σ 1 0 ((σ 1 0) + (1 : Int32))) 1 j0
      exact ih

noncomputable def m_ts_it60 (σ : pr_I) : Nat → pr_I
  | 0 => (m_ts_it12 σ (mtn σ))
  | k + 1 => (if ((m_ts_it60 σ k) 1 (264 + 28 * k + 4)) = (2 : Int32) then (if ((m_ts_it60 σ k) 1 (264 + 28 * k + 11)) = ((σ 1 0) + (1 : Int32)) then (m_end (m_ts_it60 σ k) k) else (m_ts_it60 σ k)) else (m_ts_it60 σ k))
theorem fr_m_ts_it60 {σ : pr_I} {o : Nat} (hms : ∀ m ∈ ([1] : List Nat), o ≠ m) : ∀ {k : Nat}, (m_ts_it60 σ k) o = (m_ts_it12 σ (mtn σ)) o := by
  simp only [List.mem_cons, List.not_mem_nil, or_false, forall_eq_or_imp, forall_eq] at hms
  intro k
  induction k with
  | zero =>
    show (m_ts_it12 σ (mtn σ)) o = (m_ts_it12 σ (mtn σ)) o
    rfl
  | succ k ih =>
    by_cases c_78 : ((m_ts_it60 σ k) 1 (264 + 28 * k + 4)) = (2 : Int32)
    · refine (congrFun (congrArg (fun z : pr_I => z) (if_pos c_78)) o).trans ?_
      by_cases c_94 : ((m_ts_it60 σ k) 1 (264 + 28 * k + 11)) = ((σ 1 0) + (1 : Int32))
      · refine (congrFun (congrArg (fun z : pr_I => z) (if_pos c_94)) o).trans ?_
        show (m_end (m_ts_it60 σ k) k) o = (m_ts_it12 σ (mtn σ)) o
        rw [fr_m_end (by simp only [List.mem_cons, List.not_mem_nil, or_false, forall_eq_or_imp, forall_eq]; omega), ih]
      · refine (congrFun (congrArg (fun z : pr_I => z) (if_neg c_94)) o).trans ?_
        show (m_ts_it60 σ k) o = (m_ts_it12 σ (mtn σ)) o
        rw [ih]
    · refine (congrFun (congrArg (fun z : pr_I => z) (if_neg c_78)) o).trans ?_
      show (m_ts_it60 σ k) o = (m_ts_it12 σ (mtn σ)) o
      rw [ih]
theorem fw_m_ts_it60 {σ : pr_I} {j0 : Nat} (hj : j0 < 12) (hmw : ∀ m ∈ ([] : List Nat), j0 ≠ m) : ∀ {k : Nat}, (m_ts_it60 σ k) 1 j0 = (m_ts_it12 σ (mtn σ)) 1 j0 := by
  intro k
  induction k with
  | zero => rfl
  | succ k ih =>
    by_cases c_78 : ((m_ts_it60 σ k) 1 (264 + 28 * k + 4)) = (2 : Int32)
    · refine (congrArg (fun z : pr_I => z 1 j0) (if_pos c_78)).trans ?_
      by_cases c_94 : ((m_ts_it60 σ k) 1 (264 + 28 * k + 11)) = ((σ 1 0) + (1 : Int32))
      · refine (congrArg (fun z : pr_I => z 1 j0) (if_pos c_94)).trans ?_
        show (m_end (m_ts_it60 σ k) k) 1 j0 = (m_ts_it12 σ (mtn σ)) 1 j0
        exact ((fw_m_end hj (fun m hm => by cases hm)).trans ih)
      · refine (congrArg (fun z : pr_I => z 1 j0) (if_neg c_94)).trans ?_
        show (m_ts_it60 σ k) 1 j0 = (m_ts_it12 σ (mtn σ)) 1 j0
        exact ih
    · refine (congrArg (fun z : pr_I => z 1 j0) (if_neg c_78)).trans ?_
      show (m_ts_it60 σ k) 1 j0 = (m_ts_it12 σ (mtn σ)) 1 j0
      exact ih

noncomputable def m_ts_it110 (σ : pr_I) : Nat → pr_I
  | 0 => (m_ts_it60 σ (mrn σ))
  | k + 1 => (m_tr (m_ts_it110 σ k) k)
theorem fr_m_ts_it110 {σ : pr_I} {o : Nat} (hms : ∀ m ∈ ([0, 1, 8, 9, 10] : List Nat), o ≠ m) : ∀ {k : Nat}, (m_ts_it110 σ k) o = (m_ts_it60 σ (mrn σ)) o := by
  simp only [List.mem_cons, List.not_mem_nil, or_false, forall_eq_or_imp, forall_eq] at hms
  intro k
  induction k with
  | zero =>
    show (m_ts_it60 σ (mrn σ)) o = (m_ts_it60 σ (mrn σ)) o
    rfl
  | succ k ih =>
    show (m_tr (m_ts_it110 σ k) k) o = (m_ts_it60 σ (mrn σ)) o
    rw [fr_m_tr (by simp only [List.mem_cons, List.not_mem_nil, or_false, forall_eq_or_imp, forall_eq]; omega), ih]
theorem fw_m_ts_it110 {σ : pr_I} {j0 : Nat} (hj : j0 < 12) (hmw : ∀ m ∈ ([9] : List Nat), j0 ≠ m) : ∀ {k : Nat}, (m_ts_it110 σ k) 1 j0 = (m_ts_it60 σ (mrn σ)) 1 j0 := by
  simp only [List.mem_cons, List.not_mem_nil, or_false, forall_eq_or_imp, forall_eq] at hmw
  intro k
  induction k with
  | zero => rfl
  | succ k ih =>
    show (m_tr (m_ts_it110 σ k) k) 1 j0 = (m_ts_it60 σ (mrn σ)) 1 j0
    exact ((fw_m_tr hj (by simp only [List.mem_cons, List.not_mem_nil, or_false, forall_eq_or_imp, forall_eq]; omega)).trans ih)

noncomputable def m_ts (σ : pr_I) : pr_I := (m_ts_it110 σ (mrn σ))
theorem mI_m_ts_it12 {σ : pr_I} (hI : mI σ) : ∀ k, k ≤ 500 → mI (m_ts_it12 σ k)
  | 0, _ => mI.upn hI rfl
  | k + 1, hk => by
    have ih := mI_m_ts_it12 hI k (by omega)
    unfold m_ts_it12
    exact I_ite (P := mI) (I_ite (P := mI) (mI_m_exp (by omega) ih) ih) ih
theorem mI_m_ts_it60 {σ : pr_I} (hI : mI σ) : ∀ k, k ≤ 40 → mI (m_ts_it60 σ k)
  | 0, _ => mI_m_ts_it12 hI _ (mI_n5 hI)
  | k + 1, hk => by
    have ih := mI_m_ts_it60 hI k (by omega)
    unfold m_ts_it60
    exact I_ite (P := mI) (I_ite (P := mI) (mI_m_end (by omega) ih) ih) ih
theorem mI_m_ts_it110 {σ : pr_I} (hI : mI σ) (htr : ∀ k, k < mrn σ → m_tr_ok (m_ts_it110 σ k) k) : ∀ k, k ≤ mrn σ → mI (m_ts_it110 σ k)
  | 0, _ => mI_m_ts_it60 hI _ (mI_nr4 hI)
  | k + 1, hk => by
    have ih := mI_m_ts_it110 hI htr k (by omega)
    have hr4 := mI_nr4 hI
    obtain ⟨a, b, c, d⟩ := htr k (by omega)
    exact mI_m_tr (by omega) a b c ih
theorem fr_m_ts {σ : pr_I}  {o : Nat} (hms : ∀ m ∈ ([0, 1, 8, 9, 10] : List Nat), o ≠ m) : m_ts σ o = σ o := by
  unfold m_ts
  simp only [List.mem_cons, List.not_mem_nil, or_false, forall_eq_or_imp, forall_eq] at hms
  rw [fr_m_ts_it110 (by simp only [List.mem_cons, List.not_mem_nil, or_false, forall_eq_or_imp, forall_eq]; omega), fr_m_ts_it60 (by simp only [List.mem_cons, List.not_mem_nil, or_false, forall_eq_or_imp, forall_eq]; omega), fr_m_ts_it12 (by simp only [List.mem_cons, List.not_mem_nil, or_false, forall_eq_or_imp, forall_eq]; omega), pr_up_ne (by omega)]

theorem fw_m_ts {σ : pr_I}  {j0 : Nat} (hj : j0 < 12) (hmw : ∀ m ∈ ([0, 9] : List Nat), j0 ≠ m) : m_ts σ 1 j0 = σ 1 j0 := by
  simp only [List.mem_cons, List.not_mem_nil, or_false, forall_eq_or_imp, forall_eq] at hmw
  unfold m_ts
  exact ((fw_m_ts_it110 hj (by simp only [List.mem_cons, List.not_mem_nil, or_false, forall_eq_or_imp, forall_eq]; omega)).trans ((fw_m_ts_it60 hj (fun m hm => by cases hm)).trans ((fw_m_ts_it12 hj (fun m hm => by cases hm)).trans (pr_upk (by omega)))))
