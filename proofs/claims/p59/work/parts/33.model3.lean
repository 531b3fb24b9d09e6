theorem nI_linx {a b c n : Nat} {x : Int32} (hx : vp_in x n) (hn : n < 2 ^ 31) : nI a + nI b * x + nI c = nI (a + b * x.toNatClampNeg + c) := by
  obtain ⟨j, hj, rfl⟩ := vp_in_of hx hn
  rw [nI_clamp (by omega), nI_lin]
noncomputable def m_tof_it5 (σ : pr_I) (r : Nat) (x : Int32) : Nat → Int32
  | 0 => ((-1) : Int32)
  | k + 1 => (if (σ 1 (1384 + 8 * k + 0)) = (nI r) then (if (σ 1 (1384 + 8 * k + 1)) = x then (nI k) else (m_tof_it5 σ r x k)) else (m_tof_it5 σ r x k))
noncomputable def m_tof_r (σ : pr_I) (r : Nat) (x : Int32) : Int32 := (m_tof_it5 σ r x (mtn σ))
noncomputable def m_gb (σ : pr_I) (t : Nat) (z : Int32) : pr_I := (pr_up (pr_up σ 1 (1384 + 8 * t + 7) ((σ 1 (1384 + 8 * t + 7)) + z)) 1 (264 + 28 * ((σ 1 (1384 + 8 * t + 0)).toNatClampNeg) + 8) ((σ 1 (264 + 28 * ((σ 1 (1384 + 8 * t + 0)).toNatClampNeg) + 8)) + z))
theorem fr_m_gb {σ : pr_I} {t : Nat} {z : Int32} {o : Nat} (hms : ∀ m ∈ ([1] : List Nat), o ≠ m) : m_gb σ t z o = σ o := by
  unfold m_gb
  simp only [List.mem_cons, List.not_mem_nil, or_false, forall_eq_or_imp, forall_eq] at hms
  rw [pr_up_ne (by omega), pr_up_ne (by omega)]

theorem fw_m_gb {σ : pr_I} {t : Nat} {z : Int32} {j0 : Nat} (hj : j0 < 12) (hmw : ∀ m ∈ ([] : List Nat), j0 ≠ m) : m_gb σ t z 1 j0 = σ 1 j0 := by
  unfold m_gb
  exact ((pr_upk (by omega)).trans (pr_upk (by omega)))
theorem mI_m_gb {σ : pr_I} {t : Nat} {z : Int32} (ht : t < 500) (hI : mI σ) : mI (m_gb σ t z) := by
  have h0 : vp_in (σ 1 (1384 + 8 * t + 0)) 40 := mI_tick hI (k := t) (c := 0) ht (by decide) rfl
  unfold m_gb
  exact mI.upn (mI.upn hI ((mW_tick ht (by decide)).trans rfl)) ((mW_req (vp_in_lt h0) (by decide)).trans rfl)
noncomputable def m_un_r (σ : pr_I) (r : Nat) (t : Nat) : Int32 := (((((σ 1 (1384 + 8 * t + 6))).toInt64 * (((σ 1 (264 + 28 * r + 11)) - (σ 1 0))).toInt64) / ((σ 1 (264 + 28 * r + 3))).toInt64)).toInt32
noncomputable def m_st (σ : pr_I) (r : Nat) (z : Int32) : pr_I := (pr_up (pr_up (pr_up σ 1 (264 + 28 * r + 4) z) 1 (264 + 28 * r + 6) ((-1) : Int32)) 1 (264 + 28 * r + 11) (σ 1 0))
theorem fr_m_st {σ : pr_I} {r : Nat} {z : Int32} {o : Nat} (hms : ∀ m ∈ ([1] : List Nat), o ≠ m) : m_st σ r z o = σ o := by
  unfold m_st
  simp only [List.mem_cons, List.not_mem_nil, or_false, forall_eq_or_imp, forall_eq] at hms
  rw [pr_up_ne (by omega), pr_up_ne (by omega), pr_up_ne (by omega)]

theorem fw_m_st {σ : pr_I} {r : Nat} {z : Int32} {j0 : Nat} (hj : j0 < 12) (hmw : ∀ m ∈ ([] : List Nat), j0 ≠ m) : m_st σ r z 1 j0 = σ 1 j0 := by
  unfold m_st
  exact ((pr_upk (by omega)).trans ((pr_upk (by omega)).trans (pr_upk (by omega))))
noncomputable def m_go (σ : pr_I) (r : Nat) (z : Int32) (x : Int32) : pr_I := (pr_up (pr_up σ 1 (264 + 28 * r + 14) z) 1 (264 + 28 * r + 6) ((σ 1 0) + (σ 1 (96 + 7 * x.toNatClampNeg + 4))))
theorem fr_m_go {σ : pr_I} {r : Nat} {z : Int32} {x : Int32} {o : Nat} (hms : ∀ m ∈ ([1] : List Nat), o ≠ m) : m_go σ r z x o = σ o := by
  unfold m_go
  simp only [List.mem_cons, List.not_mem_nil, or_false, forall_eq_or_imp, forall_eq] at hms
  rw [pr_up_ne (by omega), pr_up_ne (by omega)]

theorem fw_m_go {σ : pr_I} {r : Nat} {z : Int32} {x : Int32} {j0 : Nat} (hj : j0 < 12) (hmw : ∀ m ∈ ([] : List Nat), j0 ≠ m) : m_go σ r z x 1 j0 = σ 1 j0 := by
  unfold m_go
  exact ((pr_upk (by omega)).trans (pr_upk (by omega)))
noncomputable def m_exp (σ : pr_I) (t : Nat) : pr_I := (m_gb (pr_up σ 1 (1384 + 8 * t + 5) (2 : Int32)) t (((σ 1 (1384 + 8 * t + 6)) * (σ 1 4)) / (100 : Int32)))
theorem fr_m_exp {σ : pr_I} {t : Nat} {o : Nat} (hms : ∀ m ∈ ([1] : List Nat), o ≠ m) : m_exp σ t o = σ o := by
  unfold m_exp
  simp only [List.mem_cons, List.not_mem_nil, or_false, forall_eq_or_imp, forall_eq] at hms
  rw [fr_m_gb (by simp only [List.mem_cons, List.not_mem_nil, or_false, forall_eq_or_imp, forall_eq]; omega), pr_up_ne (by omega)]

theorem fw_m_exp {σ : pr_I} {t : Nat} {j0 : Nat} (hj : j0 < 12) (hmw : ∀ m ∈ ([] : List Nat), j0 ≠ m) : m_exp σ t 1 j0 = σ 1 j0 := by
  unfold m_exp
  exact ((fw_m_gb hj (fun m hm => by cases hm)).trans (pr_upk (by omega)))
noncomputable def m_has1_rl2 (σ : pr_I) (r : Nat) (x : Int32) : Nat → Nat → Int32
  | 0, _ => 0
  | j + 1, k => (if (nI (mtn σ)) ≤ (nI k) then (0 : Int32) else (if (σ 1 (1384 + 8 * k + 0)) = (nI r) then (if (σ 1 (1384 + 8 * k + 1)) = x then (if (m_kept_r σ k) = 0 then (m_has1_rl2 σ r x j (k + 1)) else (1 : Int32)) else (m_has1_rl2 σ r x j (k + 1))) else (m_has1_rl2 σ r x j (k + 1))))
noncomputable def m_has1_r (σ : pr_I) (r : Nat) (x : Int32) : Int32 := (m_has1_rl2 σ r x ((mtn σ) + 1) 0)
noncomputable def m_end_it2 (σ : pr_I) (r : Nat) : Nat → pr_I
  | 0 => σ
  | k + 1 => (if ((m_end_it2 σ r k) 1 (1384 + 8 * k + 0)) = (nI r) then (if (m_kept_r (m_end_it2 σ r k) k) = 0 then (m_end_it2 σ r k) else (pr_up (m_end_it2 σ r k) 1 (1384 + 8 * k + 5) (3 : Int32))) else (m_end_it2 σ r k))
theorem fr_m_end_it2 {σ : pr_I} {r : Nat} {o : Nat} (hms : ∀ m ∈ ([1] : List Nat), o ≠ m) : ∀ {k : Nat}, (m_end_it2 σ r k) o = σ o := by
  simp only [List.mem_cons, List.not_mem_nil, or_false, forall_eq_or_imp, forall_eq] at hms
  intro k
  induction k with
  | zero =>
    show σ o = σ o
    rfl
  | succ k ih =>
    by_cases c_20 : ((m_end_it2 σ r k) 1 (1384 + 8 * k + 0)) = (nI r)
    · refine (congrFun (congrArg (fun z : pr_I => z) (if_pos c_20)) o).trans ?_
      by_cases c_28 : (m_kept_r (m_end_it2 σ r k) k) = 0
      · refine (congrFun (congrArg (fun z : pr_I => z) (if_pos c_28)) o).trans ?_
        show (m_end_it2 σ r k) o = σ o
        rw [ih]
      · refine (congrFun (congrArg (fun z : pr_I => z) (if_neg c_28)) o).trans ?_
        show (pr_up (m_end_it2 σ r k) 1 (1384 + 8 * k + 5) (3 : Int32)) o = σ o
        rw [pr_up_ne (by omega), ih]
    · refine (congrFun (congrArg (fun z : pr_I => z) (if_neg c_20)) o).trans ?_
      show (m_end_it2 σ r k) o = σ o
      rw [ih]
theorem fw_m_end_it2 {σ : pr_I} {r : Nat} {j0 : Nat} (hj : j0 < 12) (hmw : ∀ m ∈ ([] : List Nat), j0 ≠ m) : ∀ {k : Nat}, (m_end_it2 σ r k) 1 j0 = σ 1 j0 := by
  intro k
  induction k with
  | zero => rfl
  | succ k ih =>
    by_cases c_20 : ((m_end_it2 σ r k) 1 (1384 + 8 * k + 0)) = (nI r)
    · refine (congrArg (fun z : pr_I => z 1 j0) (if_pos c_20)).trans ?_
      by_cases c_28 : (m_kept_r (m_end_it2 σ r k) k) = 0
      · refine (congrArg (fun z : pr_I => z 1 j0) (if_pos c_28)).trans ?_
        show (m_end_it2 σ r k) 1 j0 = σ 1 j0
        exact ih
      · refine (congrArg (fun z : pr_I => z 1 j0) (if_neg c_28)).trans ?_
        show (pr_up (m_end_it2 σ r k) 1 (1384 + 8 * k + 5) (3 : Int32)) 1 j0 = σ 1 j0
        exact ((pr_upk (by omega)).trans ih)
    · refine (congrArg (fun z : pr_I => z 1 j0) (if_neg c_20)).trans ?_
      show (m_end_it2 σ r k) 1 j0 = σ 1 j0
      exact ih

noncomputable def m_end (σ : pr_I) (r : Nat) : pr_I := (pr_up (m_end_it2 σ r (mtn σ)) 1 (264 + 28 * r + 4) (3 : Int32))
theorem fr_m_end {σ : pr_I} {r : Nat} {o : Nat} (hms : ∀ m ∈ ([1] : List Nat), o ≠ m) : m_end σ r o = σ o := by
  unfold m_end
  simp only [List.mem_cons, List.not_mem_nil, or_false, forall_eq_or_imp, forall_eq] at hms
  rw [pr_up_ne (by omega), fr_m_end_it2 (by simp only [List.mem_cons, List.not_mem_nil, or_false, forall_eq_or_imp, forall_eq]; omega)]

theorem fw_m_end {σ : pr_I} {r : Nat} {j0 : Nat} (hj : j0 < 12) (hmw : ∀ m ∈ ([] : List Nat), j0 ≠ m) : m_end σ r 1 j0 = σ 1 j0 := by
  unfold m_end
  exact ((pr_upk (by omega)).trans (fw_m_end_it2 hj (fun m hm => by cases hm)))
