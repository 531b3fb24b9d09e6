noncomputable def m_own_r (σ : pr_I) (c : Nat) : Int32 := (σ 1 c)
noncomputable def m_own (σ : pr_I) (c : Nat) : pr_I := (pr_up σ 0 6 (0 : Int32))
theorem fr_m_own {σ : pr_I} {c : Nat} {o : Nat} (hms : ∀ m ∈ ([0] : List Nat), o ≠ m) : m_own σ c o = σ o := by
  unfold m_own
  simp only [List.mem_cons, List.not_mem_nil, or_false, forall_eq_or_imp, forall_eq] at hms
  rw [pr_up_ne (by omega)]

noncomputable def m_many_it4 (σ : pr_I) (s : Int32) : Nat → Int32
  | 0 => (0 : Int32)
  | k + 1 => ((m_many_it4 σ s k) + (if (σ 1 (264 + 28 * k + 4)) = s then (1 : Int32) else (0 : Int32)))
noncomputable def m_many_r (σ : pr_I) (s : Int32) : Int32 := (m_many_it4 σ s (mrn σ))
noncomputable def m_sum_it5 (σ : pr_I) (c : Nat) : Nat → Int64
  | 0 => (0 : Int64)
  | k + 1 => ((m_sum_it5 σ c k) + ((σ 1 (264 + 28 * k + c))).toInt64)
noncomputable def m_sum_r (σ : pr_I) (c : Nat) : Int64 := (m_sum_it5 σ c (mrn σ))
noncomputable def mf_thrown_r (σ : pr_I) : Int32 := (σ 0 6)
noncomputable def mf_nodeCount_r (σ : pr_I) : Int32 := (m_own_r σ 6)
noncomputable def mf_nodeCount (σ : pr_I) : pr_I := (m_own σ 6)
theorem fr_mf_nodeCount {σ : pr_I}  {o : Nat} (hms : ∀ m ∈ ([0] : List Nat), o ≠ m) : mf_nodeCount σ o = σ o := by
  unfold mf_nodeCount
  simp only [List.mem_cons, List.not_mem_nil, or_false, forall_eq_or_imp, forall_eq] at hms
  rw [fr_m_own (by simp only [List.mem_cons, List.not_mem_nil, or_false, forall_eq_or_imp, forall_eq]; omega)]

noncomputable def mf_linkCount_r (σ : pr_I) : Int32 := (m_own_r σ 7)
noncomputable def mf_linkCount (σ : pr_I) : pr_I := (m_own σ 7)
theorem fr_mf_linkCount {σ : pr_I}  {o : Nat} (hms : ∀ m ∈ ([0] : List Nat), o ≠ m) : mf_linkCount σ o = σ o := by
  unfold mf_linkCount
  simp only [List.mem_cons, List.not_mem_nil, or_false, forall_eq_or_imp, forall_eq] at hms
  rw [fr_m_own (by simp only [List.mem_cons, List.not_mem_nil, or_false, forall_eq_or_imp, forall_eq]; omega)]

noncomputable def mf_time_r (σ : pr_I) : Int32 := (m_own_r σ 0)
noncomputable def mf_time (σ : pr_I) : pr_I := (m_own σ 0)
theorem fr_mf_time {σ : pr_I}  {o : Nat} (hms : ∀ m ∈ ([0] : List Nat), o ≠ m) : mf_time σ o = σ o := by
  unfold mf_time
  simp only [List.mem_cons, List.not_mem_nil, or_false, forall_eq_or_imp, forall_eq] at hms
  rw [fr_m_own (by simp only [List.mem_cons, List.not_mem_nil, or_false, forall_eq_or_imp, forall_eq]; omega)]

noncomputable def mf_requestCount_r (σ : pr_I) : Int32 := (m_own_r σ 8)
noncomputable def mf_requestCount (σ : pr_I) : pr_I := (m_own σ 8)
theorem fr_mf_requestCount {σ : pr_I}  {o : Nat} (hms : ∀ m ∈ ([0] : List Nat), o ≠ m) : mf_requestCount σ o = σ o := by
  unfold mf_requestCount
  simp only [List.mem_cons, List.not_mem_nil, or_false, forall_eq_or_imp, forall_eq] at hms
  rw [fr_m_own (by simp only [List.mem_cons, List.not_mem_nil, or_false, forall_eq_or_imp, forall_eq]; omega)]

noncomputable def mf_ticketCount_r (σ : pr_I) : Int32 := (m_own_r σ 9)
noncomputable def mf_ticketCount (σ : pr_I) : pr_I := (m_own σ 9)
theorem fr_mf_ticketCount {σ : pr_I}  {o : Nat} (hms : ∀ m ∈ ([0] : List Nat), o ≠ m) : mf_ticketCount σ o = σ o := by
  unfold mf_ticketCount
  simp only [List.mem_cons, List.not_mem_nil, or_false, forall_eq_or_imp, forall_eq] at hms
  rw [fr_m_own (by simp only [List.mem_cons, List.not_mem_nil, or_false, forall_eq_or_imp, forall_eq]; omega)]

noncomputable def mf_linkValue_r (σ : pr_I) (k c : Nat) : Int32 := match c with
  | 5 => m_prom_r (pr_up σ 0 6 (0 : Int32)) (mtn σ) (nI k)
  | 6 => m_av_r (pr_up σ 0 6 (0 : Int32)) (mtn σ) k
  | 7 => σ 1 (96 + 7 * k + 6)
  | 8 => σ 1 (96 + 7 * k + 5)
  | c => σ 1 (96 + 7 * k + c)
noncomputable def mf_setting_r (σ : pr_I) (c : Nat) : Int32 := (σ 1 (1 + c))
noncomputable def mf_setting (σ : pr_I) (c : Nat) : pr_I := (pr_up σ 0 6 (0 : Int32))
theorem fr_mf_setting {σ : pr_I} {c : Nat} {o : Nat} (hms : ∀ m ∈ ([0] : List Nat), o ≠ m) : mf_setting σ c o = σ o := by
  unfold mf_setting
  simp only [List.mem_cons, List.not_mem_nil, or_false, forall_eq_or_imp, forall_eq] at hms
  rw [pr_up_ne (by omega)]

def m_lst (j : Nat) : Int32 := if j = 4 then 0 else if j = 5 then 0 else 1
def m_mst (j : Nat) : Int32 := if j = 1 then 500 else if j = 3 then 9 else 100
noncomputable def mf_setSetting_r (σ : pr_I) (c : Nat) (z : Int32) : Int32 := (σ 1 (1 + c))
noncomputable def mf_setSetting (σ : pr_I) (c : Nat) (z : Int32) : pr_I := (pr_up (pr_up σ 0 6 (0 : Int32)) 1 (1 + c) z)
theorem fr_mf_setSetting {σ : pr_I} {c : Nat} {z : Int32} {o : Nat} (hms : ∀ m ∈ ([0, 1] : List Nat), o ≠ m) : mf_setSetting σ c z o = σ o := by
  unfold mf_setSetting
  simp only [List.mem_cons, List.not_mem_nil, or_false, forall_eq_or_imp, forall_eq] at hms
  rw [pr_up_ne (by omega), pr_up_ne (by omega)]

noncomputable def mf_setCapacity_r (σ : pr_I) (k : Nat) (z : Int32) : Int32 := (if (m_prom_r (pr_up σ 0 6 (0 : Int32)) (mtn σ) (nI k)) ≤ z then (σ 1 (96 + 7 * k + 2)) else ((-3) : Int32))
noncomputable def mf_setCapacity (σ : pr_I) (k : Nat) (z : Int32) : pr_I := (if (m_prom_r (pr_up σ 0 6 (0 : Int32)) (mtn σ) (nI k)) ≤ z then (pr_up (pr_up σ 0 6 (0 : Int32)) 1 (96 + 7 * k + 2) z) else (pr_up σ 0 6 (0 : Int32)))
theorem fr_mf_setCapacity {σ : pr_I} {k : Nat} {z : Int32} {o : Nat} (hms : ∀ m ∈ ([0, 1] : List Nat), o ≠ m) : mf_setCapacity σ k z o = σ o := by
  unfold mf_setCapacity
  simp only [List.mem_cons, List.not_mem_nil, or_false, forall_eq_or_imp, forall_eq] at hms
  by_cases c_41 : (m_prom_r (pr_up σ 0 6 (0 : Int32)) (mtn σ) (nI k)) ≤ z
  · refine (congrFun (if_pos c_41) o).trans ?_
    rw [pr_up_ne (by omega), pr_up_ne (by omega)]
  · refine (congrFun (if_neg c_41) o).trans ?_
    rw [pr_up_ne (by omega)]

theorem fw_mf_setCapacity {σ : pr_I} {k : Nat} {z : Int32} {j0 : Nat} (hj : j0 < 12) (hmw : ∀ m ∈ ([] : List Nat), j0 ≠ m) : mf_setCapacity σ k z 1 j0 = σ 1 j0 := by
  unfold mf_setCapacity
  by_cases c_41 : (m_prom_r (pr_up σ 0 6 (0 : Int32)) (mtn σ) (nI k)) ≤ z
  · rw [if_pos c_41]
    exact ((pr_upk (by omega)).trans (pr_upv (by decide)))
  · rw [if_neg c_41]
    exact (pr_upv (by decide))
def m_dn_ok (σ : pr_I) (lk : Nat) : Prop := ∀ k, k < mrn σ → ∀ j, j < mtn (m_dn_it19 σ lk k).1 → ((m_br_it2 (m_dn_it19 σ lk k).1 k j) 1 (264 + 28 * k + 3)).toInt64 ≠ 0
noncomputable def mf_takeDown_r (σ : pr_I) (k : Nat) : Int32 := (if (σ 1 (96 + 7 * k + 5)) = 0 then ((-3) : Int32) else (m_dn_r (pr_up σ 0 6 (0 : Int32)) k))
noncomputable def mf_takeDown (σ : pr_I) (k : Nat) : pr_I := (if (σ 1 (96 + 7 * k + 5)) = 0 then (pr_up σ 0 6 (0 : Int32)) else (m_dn (pr_up σ 0 6 (0 : Int32)) k))
theorem fr_mf_takeDown {σ : pr_I} {k : Nat} {o : Nat} (hms : ∀ m ∈ ([0, 1] : List Nat), o ≠ m) : mf_takeDown σ k o = σ o := by
  unfold mf_takeDown
  simp only [List.mem_cons, List.not_mem_nil, or_false, forall_eq_or_imp, forall_eq] at hms
  by_cases c_16 : (σ 1 (96 + 7 * k + 5)) = 0
  · refine (congrFun (if_pos c_16) o).trans ?_
    rw [pr_up_ne (by omega)]
  · refine (congrFun (if_neg c_16) o).trans ?_
    rw [fr_m_dn (by simp only [List.mem_cons, List.not_mem_nil, or_false, forall_eq_or_imp, forall_eq]; omega), pr_up_ne (by omega)]

theorem fw_mf_takeDown {σ : pr_I} {k : Nat} {j0 : Nat} (hj : j0 < 12) (hmw : ∀ m ∈ ([] : List Nat), j0 ≠ m) : mf_takeDown σ k 1 j0 = σ 1 j0 := by
  unfold mf_takeDown
  by_cases c_16 : (σ 1 (96 + 7 * k + 5)) = 0
  · rw [if_pos c_16]
    exact (pr_upv (by decide))
  · rw [if_neg c_16]
    exact ((fw_m_dn hj (fun m hm => by cases hm)).trans (pr_upv (by decide)))
noncomputable def mf_bringUp_r (σ : pr_I) (k : Nat) : Int32 := (if (σ 1 (96 + 7 * k + 5)) = (1 : Int32) then ((-3) : Int32) else (σ 1 0))
noncomputable def mf_bringUp (σ : pr_I) (k : Nat) : pr_I := (if (σ 1 (96 + 7 * k + 5)) = (1 : Int32) then (pr_up σ 0 6 (0 : Int32)) else (pr_up (pr_up σ 0 6 (0 : Int32)) 1 (96 + 7 * k + 5) (1 : Int32)))
theorem fr_mf_bringUp {σ : pr_I} {k : Nat} {o : Nat} (hms : ∀ m ∈ ([0, 1] : List Nat), o ≠ m) : mf_bringUp σ k o = σ o := by
  unfold mf_bringUp
  simp only [List.mem_cons, List.not_mem_nil, or_false, forall_eq_or_imp, forall_eq] at hms
  by_cases c_17 : (σ 1 (96 + 7 * k + 5)) = (1 : Int32)
  · refine (congrFun (if_pos c_17) o).trans ?_
    rw [pr_up_ne (by omega)]
  · refine (congrFun (if_neg c_17) o).trans ?_
    rw [pr_up_ne (by omega), pr_up_ne (by omega)]

theorem fw_mf_bringUp {σ : pr_I} {k : Nat} {j0 : Nat} (hj : j0 < 12) (hmw : ∀ m ∈ ([] : List Nat), j0 ≠ m) : mf_bringUp σ k 1 j0 = σ 1 j0 := by
  unfold mf_bringUp
  by_cases c_17 : (σ 1 (96 + 7 * k + 5)) = (1 : Int32)
  · rw [if_pos c_17]
    exact (pr_upv (by decide))
  · rw [if_neg c_17]
    exact ((pr_upk (by omega)).trans (pr_upv (by decide)))
noncomputable def mf_request_r (σ : pr_I) (s : Nat) (t : Nat) (u : Int32) (q : Int32) : Int32 := (if (nI (mrn σ)) = (nI 40) then ((-2) : Int32) else (m_mk_r (pr_up σ 0 6 (0 : Int32)) (nI s) (nI t) u q))
noncomputable def mf_request (σ : pr_I) (s : Nat) (t : Nat) (u : Int32) (q : Int32) : pr_I := (if (nI (mrn σ)) = (nI 40) then (pr_up σ 0 6 (0 : Int32)) else (m_mk (pr_up σ 0 6 (0 : Int32)) (nI s) (nI t) u q))
theorem fr_mf_request {σ : pr_I} {s : Nat} {t : Nat} {u : Int32} {q : Int32} {o : Nat} (hms : ∀ m ∈ ([0, 1, 8, 9, 10] : List Nat), o ≠ m) : mf_request σ s t u q o = σ o := by
  unfold mf_request
  simp only [List.mem_cons, List.not_mem_nil, or_false, forall_eq_or_imp, forall_eq] at hms
  by_cases c_58 : (nI (mrn σ)) = (nI 40)
  · refine (congrFun (if_pos c_58) o).trans ?_
    rw [pr_up_ne (by omega)]
  · refine (congrFun (if_neg c_58) o).trans ?_
    rw [fr_m_mk (by simp only [List.mem_cons, List.not_mem_nil, or_false, forall_eq_or_imp, forall_eq]; omega), pr_up_ne (by omega)]

theorem fw_mf_request {σ : pr_I} {s : Nat} {t : Nat} {u : Int32} {q : Int32} {j0 : Nat} (hj : j0 < 12) (hmw : ∀ m ∈ ([8, 9] : List Nat), j0 ≠ m) : mf_request σ s t u q 1 j0 = σ 1 j0 := by
  simp only [List.mem_cons, List.not_mem_nil, or_false, forall_eq_or_imp, forall_eq] at hmw
  unfold mf_request
  by_cases c_58 : (nI (mrn σ)) = (nI 40)
  · rw [if_pos c_58]
    exact (pr_upv (by decide))
  · rw [if_neg c_58]
    exact ((fw_m_mk hj (by simp only [List.mem_cons, List.not_mem_nil, or_false, forall_eq_or_imp, forall_eq]; omega)).trans (pr_upv (by decide)))
noncomputable def mf_cancel_it45 (σ : pr_I) (k : Nat) : Nat → pr_I × Int32
  | 0 => ((pr_up σ 0 6 (0 : Int32)), (0 : Int32))
  | i + 1 => (if ((mf_cancel_it45 σ k i).1 1 (1384 + 8 * i + 0)) = (nI k) then (if (m_kept_r (mf_cancel_it45 σ k i).1 i) = 0 then ((mf_cancel_it45 σ k i).1, ((mf_cancel_it45 σ k i).2)) else ((m_gb (pr_up (mf_cancel_it45 σ k i).1 1 (1384 + 8 * i + 5) (3 : Int32)) i (((if (σ 1 (264 + 28 * k + 4)) = (2 : Int32) then (m_un_r (mf_cancel_it45 σ k i).1 k i) else ((mf_cancel_it45 σ k i).1 1 (1384 + 8 * i + 6))) * (σ 1 5)) / (100 : Int32))), (((mf_cancel_it45 σ k i).2) + (((if (σ 1 (264 + 28 * k + 4)) = (2 : Int32) then (m_un_r (mf_cancel_it45 σ k i).1 k i) else ((mf_cancel_it45 σ k i).1 1 (1384 + 8 * i + 6))) * (σ 1 5)) / (100 : Int32))))) else ((mf_cancel_it45 σ k i).1, ((mf_cancel_it45 σ k i).2)))
theorem fr_mf_cancel_it45 {σ : pr_I} {k : Nat} {o : Nat} (hms : ∀ m ∈ ([1] : List Nat), o ≠ m) : ∀ {i : Nat}, (mf_cancel_it45 σ k i).1 o = (pr_up σ 0 6 (0 : Int32)) o := by
  simp only [List.mem_cons, List.not_mem_nil, or_false, forall_eq_or_imp, forall_eq] at hms
  intro i
  induction i with
  | zero =>
    show (pr_up σ 0 6 (0 : Int32)) o = (pr_up σ 0 6 (0 : Int32)) o
    rfl
  | succ i ih =>
    by_cases c_65 : ((mf_cancel_it45 σ k i).1 1 (1384 + 8 * i + 0)) = (nI k)
    · refine (congrFun (congrArg (fun z : pr_I × Int32 => z.1) (if_pos c_65)) o).trans ?_
      by_cases c_74 : (m_kept_r (mf_cancel_it45 σ k i).1 i) = 0
      · refine (congrFun (congrArg (fun z : pr_I × Int32 => z.1) (if_pos c_74)) o).trans ?_
        show (mf_cancel_it45 σ k i).1 o = (pr_up σ 0 6 (0 : Int32)) o
        rw [ih]
      · refine (congrFun (congrArg (fun z : pr_I × Int32 => z.1) (if_neg c_74)) o).trans ?_
        show (m_gb (pr_up (mf_cancel_it45 σ k i).1 1 (1384 + 8 * i + 5) (3 : Int32)) i (((if (σ 1 (264 + 28 * k + 4)) = (2 : Int32) then (m_un_r (mf_cancel_it45 σ k i).1 k i) else ((mf_cancel_it45 σ k i).1 1 (1384 + 8 * i + 6))) * (σ 1 5)) / (100 : Int32))) o = (pr_up σ 0 6 (0 : Int32)) o
        rw [fr_m_gb (by simp only [List.mem_cons, List.not_mem_nil, or_false, forall_eq_or_imp, forall_eq]; omega), pr_up_ne (by omega), ih]
    · refine (congrFun (congrArg (fun z : pr_I × Int32 => z.1) (if_neg c_65)) o).trans ?_
      show (mf_cancel_it45 σ k i).1 o = (pr_up σ 0 6 (0 : Int32)) o
      rw [ih]
theorem fw_mf_cancel_it45 {σ : pr_I} {k : Nat} {j0 : Nat} (hj : j0 < 12) (hmw : ∀ m ∈ ([] : List Nat), j0 ≠ m) : ∀ {i : Nat}, (mf_cancel_it45 σ k i).1 1 j0 = (pr_up σ 0 6 (0 : Int32)) 1 j0 := by
  intro i
  induction i with
  | zero => rfl
  | succ i ih =>
    by_cases c_65 : ((mf_cancel_it45 σ k i).1 1 (1384 + 8 * i + 0)) = (nI k)
    · refine (congrArg (fun z : pr_I × Int32 => z.1 1 j0) (if_pos c_65)).trans ?_
      by_cases c_74 : (m_kept_r (mf_cancel_it45 σ k i).1 i) = 0
      · refine (congrArg (fun z : pr_I × Int32 => z.1 1 j0) (if_pos c_74)).trans ?_
        show (mf_cancel_it45 σ k i).1 1 j0 = (pr_up σ 0 6 (0 : Int32)) 1 j0
        exact ih
      · refine (congrArg (fun z : pr_I × Int32 => z.1 1 j0) (if_neg c_74)).trans ?_
        show (m_gb (pr_up (mf_cancel_it45 σ k i).1 1 (1384 + 8 * i + 5) (3 : Int32)) i (((if (σ 1 (264 + 28 * k + 4)) = (2 : Int32) then (m_un_r (mf_cancel_it45 σ k i).1 k i) else ((mf_cancel_it45 σ k i).1 1 (1384 + 8 * i + 6))) * (σ 1 5)) / (100 : Int32))) 1 j0 = (pr_up σ 0 6 (0 : Int32)) 1 j0
        exact ((fw_m_gb hj (fun m hm => by cases hm)).trans ((pr_upk (by omega)).trans ih))
    · refine (congrArg (fun z : pr_I × Int32 => z.1 1 j0) (if_neg c_65)).trans ?_
      show (mf_cancel_it45 σ k i).1 1 j0 = (pr_up σ 0 6 (0 : Int32)) 1 j0
      exact ih

noncomputable def mf_cancel_r (σ : pr_I) (k : Nat) : Int32 := (if (σ 1 (264 + 28 * k + 4)) = 0 then ((mf_cancel_it45 σ k (mtn σ)).2) else (if (σ 1 (264 + 28 * k + 4)) = (1 : Int32) then ((mf_cancel_it45 σ k (mtn σ)).2) else (if (σ 1 (264 + 28 * k + 4)) = (2 : Int32) then ((mf_cancel_it45 σ k (mtn σ)).2) else (if (σ 1 (264 + 28 * k + 4)) = (7 : Int32) then ((mf_cancel_it45 σ k (mtn σ)).2) else ((-3) : Int32)))))
noncomputable def mf_cancel (σ : pr_I) (k : Nat) : pr_I := (if (σ 1 (264 + 28 * k + 4)) = 0 then (m_st (mf_cancel_it45 σ k (mtn σ)).1 k (5 : Int32)) else (if (σ 1 (264 + 28 * k + 4)) = (1 : Int32) then (m_st (mf_cancel_it45 σ k (mtn σ)).1 k (5 : Int32)) else (if (σ 1 (264 + 28 * k + 4)) = (2 : Int32) then (m_st (mf_cancel_it45 σ k (mtn σ)).1 k (5 : Int32)) else (if (σ 1 (264 + 28 * k + 4)) = (7 : Int32) then (m_st (mf_cancel_it45 σ k (mtn σ)).1 k (5 : Int32)) else (pr_up σ 0 6 (0 : Int32))))))
theorem mI_mf_cancel_it45 {σ : pr_I} {k : Nat} (hI : mI σ) : ∀ i, i ≤ 500 → mI (mf_cancel_it45 σ k i).1
  | 0, _ => mI.upn hI rfl
  | i + 1, hi => by
    have ih := mI_mf_cancel_it45 (k := k) hI i (by omega)
    unfold mf_cancel_it45
    exact p_ite (P := fun z : pr_I × Int32 => mI z.1) (p_ite (P := fun z : pr_I × Int32 => mI z.1) ih (mI_m_gb (by omega) (mI.upn ih ((mW_tick (by omega) (by decide)).trans rfl)))) ih
theorem fr_mf_cancel {σ : pr_I} {k : Nat} {o : Nat} (hms : ∀ m ∈ ([0, 1] : List Nat), o ≠ m) : mf_cancel σ k o = σ o := by
  unfold mf_cancel
  simp only [List.mem_cons, List.not_mem_nil, or_false, forall_eq_or_imp, forall_eq] at hms
  by_cases c_18 : (σ 1 (264 + 28 * k + 4)) = 0
  · refine (congrFun (if_pos c_18) o).trans ?_
    rw [fr_m_st (by simp only [List.mem_cons, List.not_mem_nil, or_false, forall_eq_or_imp, forall_eq]; omega), fr_mf_cancel_it45 (by simp only [List.mem_cons, List.not_mem_nil, or_false, forall_eq_or_imp, forall_eq]; omega), pr_up_ne (by omega)]
  · refine (congrFun (if_neg c_18) o).trans ?_
    by_cases c_23 : (σ 1 (264 + 28 * k + 4)) = (1 : Int32)
    · refine (congrFun (if_pos c_23) o).trans ?_
      rw [fr_m_st (by simp only [List.mem_cons, List.not_mem_nil, or_false, forall_eq_or_imp, forall_eq]; omega), fr_mf_cancel_it45 (by simp only [List.mem_cons, List.not_mem_nil, or_false, forall_eq_or_imp, forall_eq]; omega), pr_up_ne (by omega)]
    · refine (congrFun (if_neg c_23) o).trans ?_
      by_cases c_28 : (σ 1 (264 + 28 * k + 4)) = (2 : Int32)
      · refine (congrFun (if_pos c_28) o).trans ?_
        rw [fr_m_st (by simp only [List.mem_cons, List.not_mem_nil, or_false, forall_eq_or_imp, forall_eq]; omega), fr_mf_cancel_it45 (by simp only [List.mem_cons, List.not_mem_nil, or_false, forall_eq_or_imp, forall_eq]; omega), pr_up_ne (by omega)]
      · refine (congrFun (if_neg c_28) o).trans ?_
        by_cases c_34 : (σ 1 (264 + 28 * k + 4)) = (7 : Int32)
        · refine (congrFun (if_pos c_34) o).trans ?_
          rw [fr_m_st (by simp only [List.mem_cons, List.not_mem_nil, or_false, forall_eq_or_imp, forall_eq]; omega), fr_mf_cancel_it45 (by simp only [List.mem_cons, List.not_mem_nil, or_false, forall_eq_or_imp, forall_eq]; omega), pr_up_ne (by omega)]
        · refine (congrFun (if_neg c_34) o).trans ?_
          rw [pr_up_ne (by omega)]

theorem fw_mf_cancel {σ : pr_I} {k : Nat} {j0 : Nat} (hj : j0 < 12) (hmw : ∀ m ∈ ([] : List Nat), j0 ≠ m) : mf_cancel σ k 1 j0 = σ 1 j0 := by
  unfold mf_cancel
  by_cases c_18 : (σ 1 (264 + 28 * k + 4)) = 0
  · rw [if_pos c_18]
    exact ((fw_m_st hj (fun m hm => by cases hm)).trans ((fw_mf_cancel_it45 hj (fun m hm => by cases hm)).trans (pr_upv (by decide))))
  · rw [if_neg c_18]
    by_cases c_23 : (σ 1 (264 + 28 * k + 4)) = (1 : Int32)
    · rw [if_pos c_23]
      exact ((fw_m_st hj (fun m hm => by cases hm)).trans ((fw_mf_cancel_it45 hj (fun m hm => by cases hm)).trans (pr_upv (by decide))))
    · rw [if_neg c_23]
      by_cases c_28 : (σ 1 (264 + 28 * k + 4)) = (2 : Int32)
      · rw [if_pos c_28]
        exact ((fw_m_st hj (fun m hm => by cases hm)).trans ((fw_mf_cancel_it45 hj (fun m hm => by cases hm)).trans (pr_upv (by decide))))
      · rw [if_neg c_28]
        by_cases c_34 : (σ 1 (264 + 28 * k + 4)) = (7 : Int32)
        · rw [if_pos c_34]
          exact ((fw_m_st hj (fun m hm => by cases hm)).trans ((fw_mf_cancel_it45 hj (fun m hm => by cases hm)).trans (pr_upv (by decide))))
        · rw [if_neg c_34]
          exact (pr_upv (by decide))
noncomputable def mf_extend_it14 (σ : pr_I) (k : Nat) : Nat → pr_I × Int32
  | 0 => ((pr_up σ 0 6 (0 : Int32)), (0 : Int32))
  | i + 1 => (if ((mf_extend_it14 σ k i).1 1 (1384 + 8 * i + 0)) = (nI k) then (if ((mf_extend_it14 σ k i).1 1 (1384 + 8 * i + 5)) = 0 then ((pr_up (mf_extend_it14 σ k i).1 1 (1384 + 8 * i + 4) (if ((mf_extend_it14 σ k i).1 1 (1384 + 8 * i + 4)) < ((σ 1 0) + (σ 1 1)) then ((σ 1 0) + (σ 1 1)) else ((mf_extend_it14 σ k i).1 1 (1384 + 8 * i + 4)))), (((mf_extend_it14 σ k i).2) + Int32.ofInt (1))) else ((mf_extend_it14 σ k i).1, ((mf_extend_it14 σ k i).2))) else ((mf_extend_it14 σ k i).1, ((mf_extend_it14 σ k i).2)))
theorem fr_mf_extend_it14 {σ : pr_I} {k : Nat} {o : Nat} (hms : ∀ m ∈ ([1] : List Nat), o ≠ m) : ∀ {i : Nat}, (mf_extend_it14 σ k i).1 o = (pr_up σ 0 6 (0 : Int32)) o := by
  simp only [List.mem_cons, List.not_mem_nil, or_false, forall_eq_or_imp, forall_eq] at hms
  intro i
  induction i with
  | zero =>
    show (pr_up σ 0 6 (0 : Int32)) o = (pr_up σ 0 6 (0 : Int32)) o
    rfl
  | succ i ih =>
    by_cases c_32 : ((mf_extend_it14 σ k i).1 1 (1384 + 8 * i + 0)) = (nI k)
    · refine (congrFun (congrArg (fun z : pr_I × Int32 => z.1) (if_pos c_32)) o).trans ?_
      by_cases c_41 : ((mf_extend_it14 σ k i).1 1 (1384 + 8 * i + 5)) = 0
      · refine (congrFun (congrArg (fun z : pr_I × Int32 => z.1) (if_pos c_41)) o).trans ?_
        show (pr_up (mf_extend_it14 σ k i).1 1 (1384 + 8 * i + 4) (if ((mf_extend_it14 σ k i).1 1 (1384 + 8 * i + 4)) < ((σ 1 0) + (σ 1 1)) then ((σ 1 0) + (σ 1 1)) else ((mf_extend_it14 σ k i).1 1 (1384 + 8 * i + 4)))) o = (pr_up σ 0 6 (0 : Int32)) o
        rw [pr_up_ne (by omega), ih]
      · refine (congrFun (congrArg (fun z : pr_I × Int32 => z.1) (if_neg c_41)) o).trans ?_
        show (mf_extend_it14 σ k i).1 o = (pr_up σ 0 6 (0 : Int32)) o
        rw [ih]
    · refine (congrFun (congrArg (fun z : pr_I × Int32 => z.1) (if_neg c_32)) o).trans ?_
      show (mf_extend_it14 σ k i).1 o = (pr_up σ 0 6 (0 : Int32)) o
      rw [ih]
theorem fw_mf_extend_it14 {σ : pr_I} {k : Nat} {j0 : Nat} (hj : j0 < 12) (hmw : ∀ m ∈ ([] : List Nat), j0 ≠ m) : ∀ {i : Nat}, (mf_extend_it14 σ k i).1 1 j0 = (pr_up σ 0 6 (0 : Int32)) 1 j0 := by
  intro i
  induction i with
  | zero => rfl
  | succ i ih =>
    by_cases c_32 : ((mf_extend_it14 σ k i).1 1 (1384 + 8 * i + 0)) = (nI k)
    · refine (congrArg (fun z : pr_I × Int32 => z.1 1 j0) (if_pos c_32)).trans ?_
      by_cases c_41 : ((mf_extend_it14 σ k i).1 1 (1384 + 8 * i + 5)) = 0
      · refine (congrArg (fun z : pr_I × Int32 => z.1 1 j0) (if_pos c_41)).trans ?_
        show (pr_up (mf_extend_it14 σ k i).1 1 (1384 + 8 * i + 4) (if ((mf_extend_it14 σ k i).1 1 (1384 + 8 * i + 4)) < ((σ 1 0) + (σ 1 1)) then ((σ 1 0) + (σ 1 1)) else ((mf_extend_it14 σ k i).1 1 (1384 + 8 * i + 4)))) 1 j0 = (pr_up σ 0 6 (0 : Int32)) 1 j0
        exact ((pr_upk (by omega)).trans ih)
      · refine (congrArg (fun z : pr_I × Int32 => z.1 1 j0) (if_neg c_41)).trans ?_
        show (mf_extend_it14 σ k i).1 1 j0 = (pr_up σ 0 6 (0 : Int32)) 1 j0
        exact ih
    · refine (congrArg (fun z : pr_I × Int32 => z.1 1 j0) (if_neg c_32)).trans ?_
      show (mf_extend_it14 σ k i).1 1 j0 = (pr_up σ 0 6 (0 : Int32)) 1 j0
      exact ih

noncomputable def mf_extend_r (σ : pr_I) (k : Nat) : Int32 := ((mf_extend_it14 σ k (mtn σ)).2)
noncomputable def mf_extend (σ : pr_I) (k : Nat) : pr_I := (mf_extend_it14 σ k (mtn σ)).1
theorem fr_mf_extend {σ : pr_I} {k : Nat} {o : Nat} (hms : ∀ m ∈ ([0, 1] : List Nat), o ≠ m) : mf_extend σ k o = σ o := by
  unfold mf_extend
  simp only [List.mem_cons, List.not_mem_nil, or_false, forall_eq_or_imp, forall_eq] at hms
  rw [fr_mf_extend_it14 (by simp only [List.mem_cons, List.not_mem_nil, or_false, forall_eq_or_imp, forall_eq]; omega), pr_up_ne (by omega)]

theorem fw_mf_extend {σ : pr_I} {k : Nat} {j0 : Nat} (hj : j0 < 12) (hmw : ∀ m ∈ ([] : List Nat), j0 ≠ m) : mf_extend σ k 1 j0 = σ 1 j0 := by
  unfold mf_extend
  exact ((fw_mf_extend_it14 hj (fun m hm => by cases hm)).trans (pr_upv (by decide)))
noncomputable def mf_requestValue_r (σ : pr_I) (k : Nat) (c : Nat) : Int32 := (σ 1 (264 + 28 * k + c))
noncomputable def mf_requestValue (σ : pr_I) (k : Nat) (c : Nat) : pr_I := (pr_up σ 0 6 (0 : Int32))
theorem fr_mf_requestValue {σ : pr_I} {k : Nat} {c : Nat} {o : Nat} (hms : ∀ m ∈ ([0] : List Nat), o ≠ m) : mf_requestValue σ k c o = σ o := by
  unfold mf_requestValue
  simp only [List.mem_cons, List.not_mem_nil, or_false, forall_eq_or_imp, forall_eq] at hms
  rw [pr_up_ne (by omega)]

noncomputable def mf_pathLength_r (σ : pr_I) (k : Nat) : Int32 := (σ 1 (264 + 28 * k + 13))
noncomputable def mf_pathLength (σ : pr_I) (k : Nat) : pr_I := (pr_up σ 0 6 (0 : Int32))
theorem fr_mf_pathLength {σ : pr_I} {k : Nat} {o : Nat} (hms : ∀ m ∈ ([0] : List Nat), o ≠ m) : mf_pathLength σ k o = σ o := by
  unfold mf_pathLength
  simp only [List.mem_cons, List.not_mem_nil, or_false, forall_eq_or_imp, forall_eq] at hms
  rw [pr_up_ne (by omega)]

theorem pl_in2 {σ : pr_I} {z L : Int32} {n : Nat} (hn : n < 2 ^ 30) (hL : vp_in L (n + 1)) (h : ¬ m_in_r σ z.toInt64 0 (L - 1).toInt64 = 0) : vp_in z n := by
  obtain ⟨j, hj, rfl⟩ := vp_in_of hL (by omega)
  rcases Classical.em (vp_in z j) with c | c
  · exact vp_in_mono c (by omega)
  · exact absurd (inK0 c (by omega)) h
noncomputable def mf_pathLink_r (σ : pr_I) (k : Nat) (z : Int32) : Int32 := (if (m_in_r (pr_up σ 0 6 (0 : Int32)) ((z).toInt64) (0 : Int64) ((((σ 1 (264 + 28 * k + 13)) - (1 : Int32))).toInt64)) = 0 then ((-1) : Int32) else (σ 1 (264 + 28 * k + (15 + z.toNatClampNeg))))
noncomputable def mf_pathLink (σ : pr_I) (k : Nat) (z : Int32) : pr_I := (if (m_in_r (pr_up σ 0 6 (0 : Int32)) ((z).toInt64) (0 : Int64) ((((σ 1 (264 + 28 * k + 13)) - (1 : Int32))).toInt64)) = 0 then (pr_up σ 0 6 (0 : Int32)) else (pr_up σ 0 6 (0 : Int32)))
theorem fr_mf_pathLink {σ : pr_I} {k : Nat} {z : Int32} {o : Nat} (hms : ∀ m ∈ ([0] : List Nat), o ≠ m) : mf_pathLink σ k z o = σ o := by
  unfold mf_pathLink
  simp only [List.mem_cons, List.not_mem_nil, or_false, forall_eq_or_imp, forall_eq] at hms
  by_cases c_26 : (m_in_r (pr_up σ 0 6 (0 : Int32)) ((z).toInt64) (0 : Int64) ((((σ 1 (264 + 28 * k + 13)) - (1 : Int32))).toInt64)) = 0
  · refine (congrFun (if_pos c_26) o).trans ?_
    rw [pr_up_ne (by omega)]
  · refine (congrFun (if_neg c_26) o).trans ?_
    rw [pr_up_ne (by omega)]

noncomputable def mf_placeOf_r (σ : pr_I) (k : Nat) : Int32 := (if (1 : Int32) < (σ 1 (264 + 28 * k + 4)) then ((-1) : Int32) else (σ 1 (264 + 28 * k + 14)))
noncomputable def mf_placeOf (σ : pr_I) (k : Nat) : pr_I := (pr_up σ 0 6 (0 : Int32))
theorem fr_mf_placeOf {σ : pr_I} {k : Nat} {o : Nat} (hms : ∀ m ∈ ([0] : List Nat), o ≠ m) : mf_placeOf σ k o = σ o := by
  unfold mf_placeOf
  simp only [List.mem_cons, List.not_mem_nil, or_false, forall_eq_or_imp, forall_eq] at hms
  rw [pr_up_ne (by omega)]

noncomputable def mf_inState_r (σ : pr_I) (c : Nat) : Int32 := (m_many_r (pr_up σ 0 6 (0 : Int32)) (nI c))
noncomputable def mf_inState (σ : pr_I) (c : Nat) : pr_I := (pr_up σ 0 6 (0 : Int32))
theorem fr_mf_inState {σ : pr_I} {c : Nat} {o : Nat} (hms : ∀ m ∈ ([0] : List Nat), o ≠ m) : mf_inState σ c o = σ o := by
  unfold mf_inState
  simp only [List.mem_cons, List.not_mem_nil, or_false, forall_eq_or_imp, forall_eq] at hms
  rw [pr_up_ne (by omega)]

noncomputable def mf_requestInState_rl37 (σ : pr_I) (c : Nat) (i : Int32) : Nat → Nat → Int32 → Int32
  | 0, _, _ => 0
  | j + 1, k, x3 => (if (nI (mrn σ)) ≤ (nI k) then ((-1) : Int32) else (if (σ 1 (264 + 28 * k + 4)) = (nI c) then (if x3 = 0 then (nI k) else (mf_requestInState_rl37 σ c i j (k + 1) (x3 + Int32.ofInt (-1)))) else (mf_requestInState_rl37 σ c i j (k + 1) x3)))
noncomputable def mf_requestInState_r (σ : pr_I) (c : Nat) (i : Int32) : Int32 := (mf_requestInState_rl37 σ c i ((mrn σ) + 1) 0 i)
noncomputable def mf_requestInState (σ : pr_I) (c : Nat) (i : Int32) : pr_I := (pr_up σ 0 6 (0 : Int32))
theorem fr_mf_requestInState {σ : pr_I} {c : Nat} {i : Int32} {o : Nat} (hms : ∀ m ∈ ([0] : List Nat), o ≠ m) : mf_requestInState σ c i o = σ o := by
  unfold mf_requestInState
  simp only [List.mem_cons, List.not_mem_nil, or_false, forall_eq_or_imp, forall_eq] at hms
  rw [pr_up_ne (by omega)]

noncomputable def mf_ticketValue_r (σ : pr_I) (k : Nat) (c : Nat) : Int32 := (σ 1 (1384 + 8 * k + c))
noncomputable def mf_ticketValue (σ : pr_I) (k : Nat) (c : Nat) : pr_I := (pr_up σ 0 6 (0 : Int32))
theorem fr_mf_ticketValue {σ : pr_I} {k : Nat} {c : Nat} {o : Nat} (hms : ∀ m ∈ ([0] : List Nat), o ≠ m) : mf_ticketValue σ k c o = σ o := by
  unfold mf_ticketValue
  simp only [List.mem_cons, List.not_mem_nil, or_false, forall_eq_or_imp, forall_eq] at hms
  rw [pr_up_ne (by omega)]

noncomputable def mf_ticketOn_rl15 (σ : pr_I) (lk : Nat) (i : Int32) : Nat → Nat → Int32 → Int32
  | 0, _, _ => 0
  | j + 1, k, x3 => (if (nI (mtn σ)) ≤ (nI k) then ((-1) : Int32) else (if (σ 1 (1384 + 8 * k + 1)) = (nI lk) then (if (m_kept_r (pr_up σ 0 6 (0 : Int32)) k) = 0 then (mf_ticketOn_rl15 σ lk i j (k + 1) x3) else (if x3 = 0 then (nI k) else (mf_ticketOn_rl15 σ lk i j (k + 1) (x3 + Int32.ofInt (-1))))) else (mf_ticketOn_rl15 σ lk i j (k + 1) x3)))
noncomputable def mf_ticketOn_r (σ : pr_I) (lk : Nat) (i : Int32) : Int32 := (mf_ticketOn_rl15 σ lk i ((mtn σ) + 1) 0 i)
noncomputable def mf_ticketOn (σ : pr_I) (lk : Nat) (i : Int32) : pr_I := (pr_up σ 0 6 (0 : Int32))
theorem fr_mf_ticketOn {σ : pr_I} {lk : Nat} {i : Int32} {o : Nat} (hms : ∀ m ∈ ([0] : List Nat), o ≠ m) : mf_ticketOn σ lk i o = σ o := by
  unfold mf_ticketOn
  simp only [List.mem_cons, List.not_mem_nil, or_false, forall_eq_or_imp, forall_eq] at hms
  rw [pr_up_ne (by omega)]

noncomputable def mf_ticketsInState_it36 (σ : pr_I) (c : Nat) : Nat → Int32
  | 0 => (0 : Int32)
  | k + 1 => ((mf_ticketsInState_it36 σ c k) + (if (σ 1 (1384 + 8 * k + 5)) = (nI c) then (1 : Int32) else (0 : Int32)))
noncomputable def mf_ticketsInState_r (σ : pr_I) (c : Nat) : Int32 := (mf_ticketsInState_it36 σ c (mtn σ))
noncomputable def mf_ticketsInState (σ : pr_I) (c : Nat) : pr_I := (pr_up σ 0 6 (0 : Int32))
theorem fr_mf_ticketsInState {σ : pr_I} {c : Nat} {o : Nat} (hms : ∀ m ∈ ([0] : List Nat), o ≠ m) : mf_ticketsInState σ c o = σ o := by
  unfold mf_ticketsInState
  simp only [List.mem_cons, List.not_mem_nil, or_false, forall_eq_or_imp, forall_eq] at hms
  rw [pr_up_ne (by omega)]

noncomputable def mf_ticketsOf_it40 (σ : pr_I) (k : Nat) (c : Nat) : Nat → Int32
  | 0 => (0 : Int32)
  | i + 1 => ((mf_ticketsOf_it40 σ k c i) + (if (σ 1 (1384 + 8 * i + 0)) = (nI k) then (if (σ 1 (1384 + 8 * i + 5)) = (nI c) then (1 : Int32) else (0 : Int32)) else (0 : Int32)))
noncomputable def mf_ticketsOf_r (σ : pr_I) (k : Nat) (c : Nat) : Int32 := (mf_ticketsOf_it40 σ k c (mtn σ))
noncomputable def mf_ticketsOf (σ : pr_I) (k : Nat) (c : Nat) : pr_I := (pr_up σ 0 6 (0 : Int32))
theorem fr_mf_ticketsOf {σ : pr_I} {k : Nat} {c : Nat} {o : Nat} (hms : ∀ m ∈ ([0] : List Nat), o ≠ m) : mf_ticketsOf σ k c o = σ o := by
  unfold mf_ticketsOf
  simp only [List.mem_cons, List.not_mem_nil, or_false, forall_eq_or_imp, forall_eq] at hms
  rw [pr_up_ne (by omega)]

noncomputable def mf_revenue_r (σ : pr_I) : Int64 := ((m_sum_r (pr_up σ 0 6 (0 : Int32)) 7) - (m_sum_r (pr_up σ 0 6 (0 : Int32)) 8))
noncomputable def mf_revenue (σ : pr_I) : pr_I := (pr_up σ 0 6 (0 : Int32))
theorem fr_mf_revenue {σ : pr_I}  {o : Nat} (hms : ∀ m ∈ ([0] : List Nat), o ≠ m) : mf_revenue σ o = σ o := by
  unfold mf_revenue
  simp only [List.mem_cons, List.not_mem_nil, or_false, forall_eq_or_imp, forall_eq] at hms
  rw [pr_up_ne (by omega)]

noncomputable def mf_refunds_r (σ : pr_I) : Int64 := (m_sum_r (pr_up σ 0 6 (0 : Int32)) 8)
noncomputable def mf_refunds (σ : pr_I) : pr_I := (pr_up σ 0 6 (0 : Int32))
theorem fr_mf_refunds {σ : pr_I}  {o : Nat} (hms : ∀ m ∈ ([0] : List Nat), o ≠ m) : mf_refunds σ o = σ o := by
  unfold mf_refunds
  simp only [List.mem_cons, List.not_mem_nil, or_false, forall_eq_or_imp, forall_eq] at hms
  rw [pr_up_ne (by omega)]

noncomputable def mf_nextExpiry_r (σ : pr_I) : Int32 := (m_nx_r (pr_up σ 0 6 (0 : Int32)))
noncomputable def mf_nextExpiry (σ : pr_I) : pr_I := (pr_up σ 0 6 (0 : Int32))
theorem fr_mf_nextExpiry {σ : pr_I}  {o : Nat} (hms : ∀ m ∈ ([0] : List Nat), o ≠ m) : mf_nextExpiry σ o = σ o := by
  unfold mf_nextExpiry
  simp only [List.mem_cons, List.not_mem_nil, or_false, forall_eq_or_imp, forall_eq] at hms
  rw [pr_up_ne (by omega)]

noncomputable def mf_nextEvent_r (σ : pr_I) : Int32 := (m_ne_r (pr_up σ 0 6 (0 : Int32)))
noncomputable def mf_nextEvent (σ : pr_I) : pr_I := (pr_up σ 0 6 (0 : Int32))
theorem fr_mf_nextEvent {σ : pr_I}  {o : Nat} (hms : ∀ m ∈ ([0] : List Nat), o ≠ m) : mf_nextEvent σ o = σ o := by
  unfold mf_nextEvent
  simp only [List.mem_cons, List.not_mem_nil, or_false, forall_eq_or_imp, forall_eq] at hms
  rw [pr_up_ne (by omega)]

noncomputable def mf_isSafe_rl7 (σ : pr_I) : Nat → Nat → Int32
  | 0, _ => 0
  | j + 1, k => (if (nI (mln σ)) ≤ (nI k) then (1 : Int32) else (if 0 ≤ (m_av_r (pr_up σ 0 6 (0 : Int32)) (mtn σ) k) then (mf_isSafe_rl7 σ j (k + 1)) else (0 : Int32)))
noncomputable def mf_isSafe_r (σ : pr_I) : Int32 := (mf_isSafe_rl7 σ ((mln σ) + 1) 0)
noncomputable def mf_isSafe (σ : pr_I) : pr_I := (pr_up σ 0 6 (0 : Int32))
theorem fr_mf_isSafe {σ : pr_I}  {o : Nat} (hms : ∀ m ∈ ([0] : List Nat), o ≠ m) : mf_isSafe σ o = σ o := by
  unfold mf_isSafe
  simp only [List.mem_cons, List.not_mem_nil, or_false, forall_eq_or_imp, forall_eq] at hms
  rw [pr_up_ne (by omega)]

noncomputable def mf_advance_r (σ : pr_I) (z : Int32) : Int32 := (if ((σ 1 0) + z) ≤ (1000000 : Int32) then ((m_gn (pr_up σ 0 6 (0 : Int32)) z) 1 0) else ((-2) : Int32))
noncomputable def mf_advance (σ : pr_I) (z : Int32) : pr_I := (if ((σ 1 0) + z) ≤ (1000000 : Int32) then (m_gn (pr_up σ 0 6 (0 : Int32)) z) else (pr_up σ 0 6 (0 : Int32)))
theorem fr_mf_advance {σ : pr_I} {z : Int32} {o : Nat} (hms : ∀ m ∈ ([0, 1, 8, 9, 10] : List Nat), o ≠ m) : mf_advance σ z o = σ o := by
  unfold mf_advance
  simp only [List.mem_cons, List.not_mem_nil, or_false, forall_eq_or_imp, forall_eq] at hms
  by_cases c_43 : ((σ 1 0) + z) ≤ (1000000 : Int32)
  · refine (congrFun (if_pos c_43) o).trans ?_
    rw [fr_m_gn (by simp only [List.mem_cons, List.not_mem_nil, or_false, forall_eq_or_imp, forall_eq]; omega), pr_up_ne (by omega)]
  · refine (congrFun (if_neg c_43) o).trans ?_
    rw [pr_up_ne (by omega)]

theorem fw_mf_advance {σ : pr_I} {z : Int32} {j0 : Nat} (hj : j0 < 12) (hmw : ∀ m ∈ ([0, 9] : List Nat), j0 ≠ m) : mf_advance σ z 1 j0 = σ 1 j0 := by
  simp only [List.mem_cons, List.not_mem_nil, or_false, forall_eq_or_imp, forall_eq] at hmw
  unfold mf_advance
  by_cases c_43 : ((σ 1 0) + z) ≤ (1000000 : Int32)
  · rw [if_pos c_43]
    exact ((fw_m_gn hj (by simp only [List.mem_cons, List.not_mem_nil, or_false, forall_eq_or_imp, forall_eq]; omega)).trans (pr_upv (by decide)))
  · rw [if_neg c_43]
    exact (pr_upv (by decide))
