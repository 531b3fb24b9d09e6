noncomputable def m_br_it2 (σ : pr_I) (r : Nat) : Nat → pr_I
  | 0 => σ
  | k + 1 => (if ((m_br_it2 σ r k) 1 (1384 + 8 * k + 0)) = (nI r) then (if (m_kept_r (m_br_it2 σ r k) k) = 0 then (m_br_it2 σ r k) else (m_gb (pr_up (m_br_it2 σ r k) 1 (1384 + 8 * k + 5) (3 : Int32)) k (m_un_r (pr_up (m_br_it2 σ r k) 1 (1384 + 8 * k + 5) (3 : Int32)) r k))) else (m_br_it2 σ r k))
theorem fr_m_br_it2 {σ : pr_I} {r : Nat} {o : Nat} (hms : ∀ m ∈ ([1] : List Nat), o ≠ m) : ∀ {k : Nat}, (m_br_it2 σ r k) o = σ o := by
  simp only [List.mem_cons, List.not_mem_nil, or_false, forall_eq_or_imp, forall_eq] at hms
  intro k
  induction k with
  | zero =>
    show σ o = σ o
    rfl
  | succ k ih =>
    by_cases c_20 : ((m_br_it2 σ r k) 1 (1384 + 8 * k + 0)) = (nI r)
    · refine (congrFun (congrArg (fun z : pr_I => z) (if_pos c_20)) o).trans ?_
      by_cases c_28 : (m_kept_r (m_br_it2 σ r k) k) = 0
      · refine (congrFun (congrArg (fun z : pr_I => z) (if_pos c_28)) o).trans ?_
        show (m_br_it2 σ r k) o = σ o
        rw [ih]
      · refine (congrFun (congrArg (fun z : pr_I => z) (if_neg c_28)) o).trans ?_
        show (m_gb (pr_up (m_br_it2 σ r k) 1 (1384 + 8 * k + 5) (3 : Int32)) k (m_un_r (pr_up (m_br_it2 σ r k) 1 (1384 + 8 * k + 5) (3 : Int32)) r k)) o = σ o
        rw [fr_m_gb (by simp only [List.mem_cons, List.not_mem_nil, or_false, forall_eq_or_imp, forall_eq]; omega), pr_up_ne (by omega), ih]
    · refine (congrFun (congrArg (fun z : pr_I => z) (if_neg c_20)) o).trans ?_
      show (m_br_it2 σ r k) o = σ o
      rw [ih]
theorem fw_m_br_it2 {σ : pr_I} {r : Nat} {j0 : Nat} (hj : j0 < 12) (hmw : ∀ m ∈ ([] : List Nat), j0 ≠ m) : ∀ {k : Nat}, (m_br_it2 σ r k) 1 j0 = σ 1 j0 := by
  intro k
  induction k with
  | zero => rfl
  | succ k ih =>
    by_cases c_20 : ((m_br_it2 σ r k) 1 (1384 + 8 * k + 0)) = (nI r)
    · refine (congrArg (fun z : pr_I => z 1 j0) (if_pos c_20)).trans ?_
      by_cases c_28 : (m_kept_r (m_br_it2 σ r k) k) = 0
      · refine (congrArg (fun z : pr_I => z 1 j0) (if_pos c_28)).trans ?_
        show (m_br_it2 σ r k) 1 j0 = σ 1 j0
        exact ih
      · refine (congrArg (fun z : pr_I => z 1 j0) (if_neg c_28)).trans ?_
        show (m_gb (pr_up (m_br_it2 σ r k) 1 (1384 + 8 * k + 5) (3 : Int32)) k (m_un_r (pr_up (m_br_it2 σ r k) 1 (1384 + 8 * k + 5) (3 : Int32)) r k)) 1 j0 = σ 1 j0
        exact ((fw_m_gb hj (fun m hm => by cases hm)).trans ((pr_upk (by omega)).trans ih))
    · refine (congrArg (fun z : pr_I => z 1 j0) (if_neg c_20)).trans ?_
      show (m_br_it2 σ r k) 1 j0 = σ 1 j0
      exact ih

noncomputable def m_br (σ : pr_I) (r : Nat) : pr_I := (m_st (m_br_it2 σ r (mtn σ)) r (6 : Int32))
theorem mI_m_br_it2 {σ : pr_I} {r : Nat} (hI : mI σ) : ∀ k, k ≤ 500 → mI (m_br_it2 σ r k)
  | 0, _ => hI
  | k + 1, hk => by
    have ih := mI_m_br_it2 (r := r) hI k (by omega)
    unfold m_br_it2
    refine I_ite (P := mI) (I_ite (P := mI) ih (mI_m_gb (by omega) (mI.upn ih ((mW_tick (by omega) (by decide)).trans rfl)))) ih
theorem fr_m_br {σ : pr_I} {r : Nat} {o : Nat} (hms : ∀ m ∈ ([1] : List Nat), o ≠ m) : m_br σ r o = σ o := by
  unfold m_br
  simp only [List.mem_cons, List.not_mem_nil, or_false, forall_eq_or_imp, forall_eq] at hms
  rw [fr_m_st (by simp only [List.mem_cons, List.not_mem_nil, or_false, forall_eq_or_imp, forall_eq]; omega), fr_m_br_it2 (by simp only [List.mem_cons, List.not_mem_nil, or_false, forall_eq_or_imp, forall_eq]; omega)]

theorem fw_m_br {σ : pr_I} {r : Nat} {j0 : Nat} (hj : j0 < 12) (hmw : ∀ m ∈ ([] : List Nat), j0 ≠ m) : m_br σ r 1 j0 = σ 1 j0 := by
  unfold m_br
  exact ((fw_m_st hj (fun m hm => by cases hm)).trans (fw_m_br_it2 hj (fun m hm => by cases hm)))
theorem mI_m_br {σ : pr_I} {r : Nat} (hr : r < 40) (hI : mI σ) : mI (m_br σ r) := by
  have h0 := mI_m_br_it2 (r := r) hI (mtn σ) (mI_n5 hI)
  have q : ∀ {c : Nat} {S : pr_I} {v : Int32}, c < 28 → mR c = none → mI S → mI (pr_up S 1 (264 + 28 * r + c) v) := fun hc e h => mI.upn h ((mW_req hr hc).trans e)
  unfold m_br m_st
  exact q (by decide) rfl (q (by decide) rfl (q (by decide) rfl h0))
noncomputable def m_dn_it19 (σ : pr_I) (lk : Nat) : Nat → pr_I × Int32
  | 0 => ((pr_up σ 1 (96 + 7 * lk + 5) (0 : Int32)), (0 : Int32))
  | k + 1 => (if (m_has1_r (m_dn_it19 σ lk k).1 k (nI lk)) = 0 then ((m_dn_it19 σ lk k).1, ((m_dn_it19 σ lk k).2)) else (if ((m_dn_it19 σ lk k).1 1 (264 + 28 * k + 4)) = (2 : Int32) then ((m_br (m_dn_it19 σ lk k).1 k), (((m_dn_it19 σ lk k).2) + Int32.ofInt (1))) else ((m_fa (m_dn_it19 σ lk k).1 k (nI lk)), (((m_dn_it19 σ lk k).2) + Int32.ofInt (1)))))
theorem fr_m_dn_it19 {σ : pr_I} {lk : Nat} {o : Nat} (hms : ∀ m ∈ ([1] : List Nat), o ≠ m) : ∀ {k : Nat}, (m_dn_it19 σ lk k).1 o = (pr_up σ 1 (96 + 7 * lk + 5) (0 : Int32)) o := by
  simp only [List.mem_cons, List.not_mem_nil, or_false, forall_eq_or_imp, forall_eq] at hms
  intro k
  induction k with
  | zero =>
    show (pr_up σ 1 (96 + 7 * lk + 5) (0 : Int32)) o = (pr_up σ 1 (96 + 7 * lk + 5) (0 : Int32)) o
    rfl
  | succ k ih =>
    by_cases c_36 : (m_has1_r (m_dn_it19 σ lk k).1 k (nI lk)) = 0
    · refine (congrFun (congrArg (fun z : pr_I × Int32 => z.1) (if_pos c_36)) o).trans ?_
      show (m_dn_it19 σ lk k).1 o = (pr_up σ 1 (96 + 7 * lk + 5) (0 : Int32)) o
      rw [ih]
    · refine (congrFun (congrArg (fun z : pr_I × Int32 => z.1) (if_neg c_36)) o).trans ?_
      by_cases c_49 : ((m_dn_it19 σ lk k).1 1 (264 + 28 * k + 4)) = (2 : Int32)
      · refine (congrFun (congrArg (fun z : pr_I × Int32 => z.1) (if_pos c_49)) o).trans ?_
        show (m_br (m_dn_it19 σ lk k).1 k) o = (pr_up σ 1 (96 + 7 * lk + 5) (0 : Int32)) o
        rw [fr_m_br (by simp only [List.mem_cons, List.not_mem_nil, or_false, forall_eq_or_imp, forall_eq]; omega), ih]
      · refine (congrFun (congrArg (fun z : pr_I × Int32 => z.1) (if_neg c_49)) o).trans ?_
        show (m_fa (m_dn_it19 σ lk k).1 k (nI lk)) o = (pr_up σ 1 (96 + 7 * lk + 5) (0 : Int32)) o
        rw [fr_m_fa (by simp only [List.mem_cons, List.not_mem_nil, or_false, forall_eq_or_imp, forall_eq]; omega), ih]
theorem fw_m_dn_it19 {σ : pr_I} {lk : Nat} {j0 : Nat} (hj : j0 < 12) (hmw : ∀ m ∈ ([] : List Nat), j0 ≠ m) : ∀ {k : Nat}, (m_dn_it19 σ lk k).1 1 j0 = (pr_up σ 1 (96 + 7 * lk + 5) (0 : Int32)) 1 j0 := by
  intro k
  induction k with
  | zero => rfl
  | succ k ih =>
    by_cases c_36 : (m_has1_r (m_dn_it19 σ lk k).1 k (nI lk)) = 0
    · refine (congrArg (fun z : pr_I × Int32 => z.1 1 j0) (if_pos c_36)).trans ?_
      show (m_dn_it19 σ lk k).1 1 j0 = (pr_up σ 1 (96 + 7 * lk + 5) (0 : Int32)) 1 j0
      exact ih
    · refine (congrArg (fun z : pr_I × Int32 => z.1 1 j0) (if_neg c_36)).trans ?_
      by_cases c_49 : ((m_dn_it19 σ lk k).1 1 (264 + 28 * k + 4)) = (2 : Int32)
      · refine (congrArg (fun z : pr_I × Int32 => z.1 1 j0) (if_pos c_49)).trans ?_
        show (m_br (m_dn_it19 σ lk k).1 k) 1 j0 = (pr_up σ 1 (96 + 7 * lk + 5) (0 : Int32)) 1 j0
        exact ((fw_m_br hj (fun m hm => by cases hm)).trans ih)
      · refine (congrArg (fun z : pr_I × Int32 => z.1 1 j0) (if_neg c_49)).trans ?_
        show (m_fa (m_dn_it19 σ lk k).1 k (nI lk)) 1 j0 = (pr_up σ 1 (96 + 7 * lk + 5) (0 : Int32)) 1 j0
        exact ((fw_m_fa hj (fun m hm => by cases hm)).trans ih)

noncomputable def m_dn_r (σ : pr_I) (lk : Nat) : Int32 := ((m_dn_it19 σ lk (mrn σ)).2)
noncomputable def m_dn (σ : pr_I) (lk : Nat) : pr_I := (m_dn_it19 σ lk (mrn σ)).1
theorem mI_m_dn_it19 {σ : pr_I} {lk : Nat} (hI : mI σ) (hk : lk < 24) : ∀ k, k ≤ 40 → mI (m_dn_it19 σ lk k).1
  | 0, _ => mI.upn hI ((mW_link hk (by decide)).trans rfl)
  | k + 1, hj => by
    have ih := mI_m_dn_it19 (lk := lk) hI hk k (by omega)
    unfold m_dn_it19
    exact p_ite (P := fun z : pr_I × Int32 => mI z.1) ih (p_ite (P := fun z : pr_I × Int32 => mI z.1) (mI_m_br (by omega) ih) (mI_m_fa (by omega) (nI_vin hk (by decide)) ih))
theorem fr_m_dn {σ : pr_I} {lk : Nat} {o : Nat} (hms : ∀ m ∈ ([1] : List Nat), o ≠ m) : m_dn σ lk o = σ o := by
  unfold m_dn
  simp only [List.mem_cons, List.not_mem_nil, or_false, forall_eq_or_imp, forall_eq] at hms
  rw [fr_m_dn_it19 (by simp only [List.mem_cons, List.not_mem_nil, or_false, forall_eq_or_imp, forall_eq]; omega), pr_up_ne (by omega)]

theorem fw_m_dn {σ : pr_I} {lk : Nat} {j0 : Nat} (hj : j0 < 12) (hmw : ∀ m ∈ ([] : List Nat), j0 ≠ m) : m_dn σ lk 1 j0 = σ 1 j0 := by
  unfold m_dn
  exact ((fw_m_dn_it19 hj (fun m hm => by cases hm)).trans (pr_upk (by omega)))
