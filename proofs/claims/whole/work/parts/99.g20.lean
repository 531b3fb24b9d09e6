/-! THE REFERENCE'S NAMES (row 1, columns 12 to 95) BEHIND EACH OPERATION -/
theorem fv_m_gb {σ : pr_I} {t : Nat} {z : Int32} {j0 : Nat} (hj : j0 < 96) (hmw : ∀ m ∈ ([] : List Nat), j0 ≠ m) : m_gb σ t z 1 j0 = σ 1 j0 := by
  unfold m_gb
  exact ((pr_upk (by omega)).trans (pr_upk (by omega)))
theorem fv_m_st {σ : pr_I} {r : Nat} {z : Int32} {j0 : Nat} (hj : j0 < 96) (hmw : ∀ m ∈ ([] : List Nat), j0 ≠ m) : m_st σ r z 1 j0 = σ 1 j0 := by
  unfold m_st
  exact ((pr_upk (by omega)).trans ((pr_upk (by omega)).trans (pr_upk (by omega))))
theorem fv_m_go {σ : pr_I} {r : Nat} {z : Int32} {x : Int32} {j0 : Nat} (hj : j0 < 96) (hmw : ∀ m ∈ ([] : List Nat), j0 ≠ m) : m_go σ r z x 1 j0 = σ 1 j0 := by
  unfold m_go
  exact ((pr_upk (by omega)).trans (pr_upk (by omega)))
theorem fv_m_exp {σ : pr_I} {t : Nat} {j0 : Nat} (hj : j0 < 96) (hmw : ∀ m ∈ ([] : List Nat), j0 ≠ m) : m_exp σ t 1 j0 = σ 1 j0 := by
  unfold m_exp
  exact ((fv_m_gb hj (fun m hm => by cases hm)).trans (pr_upk (by omega)))
theorem fv_m_end_it2 {σ : pr_I} {r : Nat} {j0 : Nat} (hj : j0 < 96) (hmw : ∀ m ∈ ([] : List Nat), j0 ≠ m) : ∀ {k : Nat}, (m_end_it2 σ r k) 1 j0 = σ 1 j0 := by
  intro k
  induction k with
  | zero => rfl
  | succ k ih =>
    by_cases c_20 : ((m_end_it2 σ r k) 1 (1384 + 8 * k + 0)) = (nI r)
    · refine (congrArg (fun z : pr_I => z 1 j0) (if_pos c_20)).trans ?_
      by_cases c_28 : (m_kept_r (m_end_it2 σ r k) k) = 0
      · refine (congrArg (fun z : pr_I => z 1 j0) (if_pos c_28)).trans ?_
        show (m_end_it2 σ r k) 1 j0 = σ 1 j0
        exact ih
      · refine (congrArg (fun z : pr_I => z 1 j0) (if_neg c_28)).trans ?_
        show (pr_up (m_end_it2 σ r k) 1 (1384 + 8 * k + 5) (3 : Int32)) 1 j0 = σ 1 j0
        exact ((pr_upk (by omega)).trans ih)
    · refine (congrArg (fun z : pr_I => z 1 j0) (if_neg c_20)).trans ?_
      show (m_end_it2 σ r k) 1 j0 = σ 1 j0
      exact ih
theorem fv_m_end {σ : pr_I} {r : Nat} {j0 : Nat} (hj : j0 < 96) (hmw : ∀ m ∈ ([] : List Nat), j0 ≠ m) : m_end σ r 1 j0 = σ 1 j0 := by
  unfold m_end
  exact ((pr_upk (by omega)).trans (fv_m_end_it2 hj (fun m hm => by cases hm)))
theorem fv_m_fa_it2 {σ : pr_I} {r : Nat} {x : Int32} {j0 : Nat} (hj : j0 < 96) (hmw : ∀ m ∈ ([] : List Nat), j0 ≠ m) : ∀ {k : Nat}, (m_fa_it2 σ r x k) 1 j0 = σ 1 j0 := by
  intro k
  induction k with
  | zero => rfl
  | succ k ih =>
    by_cases c_20 : ((m_fa_it2 σ r x k) 1 (1384 + 8 * k + 0)) = (nI r)
    · refine (congrArg (fun z : pr_I => z 1 j0) (if_pos c_20)).trans ?_
      by_cases c_28 : (m_kept_r (m_fa_it2 σ r x k) k) = 0
      · refine (congrArg (fun z : pr_I => z 1 j0) (if_pos c_28)).trans ?_
        show (m_fa_it2 σ r x k) 1 j0 = σ 1 j0
        exact ih
      · refine (congrArg (fun z : pr_I => z 1 j0) (if_neg c_28)).trans ?_
        show (m_gb (pr_up (m_fa_it2 σ r x k) 1 (1384 + 8 * k + 5) (3 : Int32)) k ((m_fa_it2 σ r x k) 1 (1384 + 8 * k + 6))) 1 j0 = σ 1 j0
        exact ((fv_m_gb hj (fun m hm => by cases hm)).trans ((pr_upk (by omega)).trans ih))
    · refine (congrArg (fun z : pr_I => z 1 j0) (if_neg c_20)).trans ?_
      show (m_fa_it2 σ r x k) 1 j0 = σ 1 j0
      exact ih
theorem fv_m_fa {σ : pr_I} {r : Nat} {x : Int32} {j0 : Nat} (hj : j0 < 96) (hmw : ∀ m ∈ ([] : List Nat), j0 ≠ m) : m_fa σ r x 1 j0 = σ 1 j0 := by
  unfold m_fa
  exact ((pr_upk (by omega)).trans ((pr_upk (by omega)).trans ((pr_upk (by omega)).trans ((pr_upk (by omega)).trans ((pr_upk (by omega)).trans ((pr_upk (by omega)).trans (fv_m_fa_it2 hj (fun m hm => by cases hm))))))))
theorem fv_m_is {σ : pr_I} {r : Nat} {x : Int32} {j0 : Nat} (hj : j0 < 96) (hmw : ∀ m ∈ ([9] : List Nat), j0 ≠ m) : m_is σ r x 1 j0 = σ 1 j0 := by
  simp only [List.mem_cons, List.not_mem_nil, or_false, forall_eq_or_imp, forall_eq] at hmw
  unfold m_is
  exact ((pr_upk (by omega)).trans ((pr_upk (by omega)).trans ((pr_upk (by omega)).trans ((pr_upk (by omega)).trans ((pr_upk (by omega)).trans ((pr_upk (by omega)).trans ((pr_upk (by omega)).trans ((pr_upk (by omega)).trans ((pr_upk (by omega)).trans (pr_upk (by omega)))))))))))
theorem fv_m_fw {σ : pr_I} {r : Nat} {j0 : Nat} (hj : j0 < 96) (hmw : ∀ m ∈ ([9] : List Nat), j0 ≠ m) : m_fw σ r 1 j0 = σ 1 j0 := by
  simp only [List.mem_cons, List.not_mem_nil, or_false, forall_eq_or_imp, forall_eq] at hmw
  unfold m_fw
  by_cases c_16 : (σ 1 (264 + 28 * r + 14)) = (σ 1 (264 + 28 * r + 13))
  · rw [if_pos c_16]
    exact (pr_upk (by omega))
  · rw [if_neg c_16]
    by_cases c_43 : (σ 1 (96 + 7 * ((σ 1 (264 + 28 * r + (15 + (σ 1 (264 + 28 * r + 14)).toNatClampNeg))).toNatClampNeg) + 5)) = 0
    · rw [if_pos c_43]
      exact (fv_m_fa hj (fun m hm => by cases hm))
    · rw [if_neg c_43]
      by_cases c_57 : (m_ax_r σ (mtn σ) (σ 1 (264 + 28 * r + (15 + (σ 1 (264 + 28 * r + 14)).toNatClampNeg)))) < (σ 1 (264 + 28 * r + 2))
      · rw [if_pos c_57]
        exact (fv_m_fa hj (fun m hm => by cases hm))
      · rw [if_neg c_57]
        by_cases c_70 : (nI (mtn σ)) < (nI 500)
        · rw [if_pos c_70]
          exact ((fv_m_go hj (fun m hm => by cases hm)).trans (fv_m_is hj (by simp only [List.mem_cons, List.not_mem_nil, or_false, forall_eq_or_imp, forall_eq]; omega)))
        · rw [if_neg c_70]
          exact (fv_m_fa hj (fun m hm => by cases hm))
theorem fv_m_po {σ : pr_I} {z : Int32} {j0 : Nat} (hj : j0 < 96) (hmw : ∀ m ∈ ([0] : List Nat), j0 ≠ m) : m_po σ z 1 j0 = σ 1 j0 := by
  simp only [List.mem_cons, List.not_mem_nil, or_false, forall_eq_or_imp, forall_eq] at hmw
  unfold m_po
  exact (pr_upk (by omega))
theorem fv_m_bk {σ : pr_I} {r : Nat} {j0 : Nat} (hj : j0 < 96) (hmw : ∀ m ∈ ([] : List Nat), j0 ≠ m) : m_bk σ r 1 j0 = σ 1 j0 := by
  unfold m_bk
  by_cases c_9 : (σ 1 (264 + 28 * r + 14)) = 0
  · rw [if_pos c_9]
    exact ((pr_upk (by omega)).trans ((pr_upk (by omega)).trans ((pr_upk (by omega)).trans (pr_upk (by omega)))))
  · rw [if_neg c_9]
    by_cases c_88 : (σ 1 (1384 + 8 * ((m_tof_r σ r (σ 1 (264 + 28 * r + (15 + ((σ 1 (264 + 28 * r + 14)).toNatClampNeg - 1))))).toNatClampNeg) + 5)) = 0
    · rw [if_pos c_88]
      exact ((fv_m_go hj (fun m hm => by cases hm)).trans (pr_upk (by omega)))
    · rw [if_neg c_88]
      exact (fv_m_fa hj (fun m hm => by cases hm))
theorem fv_m_br_it2 {σ : pr_I} {r : Nat} {j0 : Nat} (hj : j0 < 96) (hmw : ∀ m ∈ ([] : List Nat), j0 ≠ m) : ∀ {k : Nat}, (m_br_it2 σ r k) 1 j0 = σ 1 j0 := by
  intro k
  induction k with
  | zero => rfl
  | succ k ih =>
    by_cases c_20 : ((m_br_it2 σ r k) 1 (1384 + 8 * k + 0)) = (nI r)
    · refine (congrArg (fun z : pr_I => z 1 j0) (if_pos c_20)).trans ?_
      by_cases c_28 : (m_kept_r (m_br_it2 σ r k) k) = 0
      · refine (congrArg (fun z : pr_I => z 1 j0) (if_pos c_28)).trans ?_
        show (m_br_it2 σ r k) 1 j0 = σ 1 j0
        exact ih
      · refine (congrArg (fun z : pr_I => z 1 j0) (if_neg c_28)).trans ?_
        show (m_gb (pr_up (m_br_it2 σ r k) 1 (1384 + 8 * k + 5) (3 : Int32)) k (m_un_r (pr_up (m_br_it2 σ r k) 1 (1384 + 8 * k + 5) (3 : Int32)) r k)) 1 j0 = σ 1 j0
        exact ((fv_m_gb hj (fun m hm => by cases hm)).trans ((pr_upk (by omega)).trans ih))
    · refine (congrArg (fun z : pr_I => z 1 j0) (if_neg c_20)).trans ?_
      show (m_br_it2 σ r k) 1 j0 = σ 1 j0
      exact ih
theorem fv_m_br {σ : pr_I} {r : Nat} {j0 : Nat} (hj : j0 < 96) (hmw : ∀ m ∈ ([] : List Nat), j0 ≠ m) : m_br σ r 1 j0 = σ 1 j0 := by
  unfold m_br
  exact ((fv_m_st hj (fun m hm => by cases hm)).trans (fv_m_br_it2 hj (fun m hm => by cases hm)))
theorem fv_m_dn_it19 {σ : pr_I} {lk : Nat} {j0 : Nat} (hj : j0 < 96) (hmw : ∀ m ∈ ([] : List Nat), j0 ≠ m) : ∀ {k : Nat}, (m_dn_it19 σ lk k).1 1 j0 = (pr_up σ 1 (96 + 7 * lk + 5) (0 : Int32)) 1 j0 := by
  intro k
  induction k with
  | zero => rfl
  | succ k ih =>
    by_cases c_36 : (m_has1_r (m_dn_it19 σ lk k).1 k (nI lk)) = 0
    · refine (congrArg (fun z : pr_I × Int32 => z.1 1 j0) (if_pos c_36)).trans ?_
      show (m_dn_it19 σ lk k).1 1 j0 = (pr_up σ 1 (96 + 7 * lk + 5) (0 : Int32)) 1 j0
      exact ih
    · refine (congrArg (fun z : pr_I × Int32 => z.1 1 j0) (if_neg c_36)).trans ?_
      by_cases c_49 : ((m_dn_it19 σ lk k).1 1 (264 + 28 * k + 4)) = (2 : Int32)
      · refine (congrArg (fun z : pr_I × Int32 => z.1 1 j0) (if_pos c_49)).trans ?_
        show (m_br (m_dn_it19 σ lk k).1 k) 1 j0 = (pr_up σ 1 (96 + 7 * lk + 5) (0 : Int32)) 1 j0
        exact ((fv_m_br hj (fun m hm => by cases hm)).trans ih)
      · refine (congrArg (fun z : pr_I × Int32 => z.1 1 j0) (if_neg c_49)).trans ?_
        show (m_fa (m_dn_it19 σ lk k).1 k (nI lk)) 1 j0 = (pr_up σ 1 (96 + 7 * lk + 5) (0 : Int32)) 1 j0
        exact ((fv_m_fa hj (fun m hm => by cases hm)).trans ih)
theorem fv_m_dn {σ : pr_I} {lk : Nat} {j0 : Nat} (hj : j0 < 96) (hmw : ∀ m ∈ ([] : List Nat), j0 ≠ m) : m_dn σ lk 1 j0 = σ 1 j0 := by
  unfold m_dn
  exact ((fv_m_dn_it19 hj (fun m hm => by cases hm)).trans (pr_upk (by omega)))
theorem fv_m_at_it62 {σ : pr_I} {r : Nat} {j0 : Nat} (hj : j0 < 96) (hmw : ∀ m ∈ ([] : List Nat), j0 ≠ m) : ∀ {k : Nat}, (m_at_it62 σ r k) 1 j0 = (pr_up (m_fi σ (σ 1 (264 + 28 * r + 0)) (σ 1 (264 + 28 * r + 1)) ((m_up_r σ (mln σ)) &&& ((σ 1 (264 + 28 * r + 9)) ^^^ ((-1) : Int32)))) 1 (264 + 28 * r + 13) ((m_fi σ (σ 1 (264 + 28 * r + 0)) (σ 1 (264 + 28 * r + 1)) ((m_up_r σ (mln σ)) &&& ((σ 1 (264 + 28 * r + 9)) ^^^ ((-1) : Int32)))) 0 17)) 1 j0 := by
  intro k
  induction k with
  | zero => rfl
  | succ k ih =>
    show (pr_up (m_at_it62 σ r k) 1 (264 + 28 * r + (15 + k)) ((m_fi σ (σ 1 (264 + 28 * r + 0)) (σ 1 (264 + 28 * r + 1)) ((m_up_r σ (mln σ)) &&& ((σ 1 (264 + 28 * r + 9)) ^^^ ((-1) : Int32)))) 10 k)) 1 j0 = (pr_up (m_fi σ (σ 1 (264 + 28 * r + 0)) (σ 1 (264 + 28 * r + 1)) ((m_up_r σ (mln σ)) &&& ((σ 1 (264 + 28 * r + 9)) ^^^ ((-1) : Int32)))) 1 (264 + 28 * r + 13) ((m_fi σ (σ 1 (264 + 28 * r + 0)) (σ 1 (264 + 28 * r + 1)) ((m_up_r σ (mln σ)) &&& ((σ 1 (264 + 28 * r + 9)) ^^^ ((-1) : Int32)))) 0 17)) 1 j0
    exact ((pr_upk (by omega)).trans ih)
theorem fv_m_at {σ : pr_I} {r : Nat} {j0 : Nat} (hj : j0 < 96) (hmw : ∀ m ∈ ([] : List Nat), j0 ≠ m) : m_at σ r 1 j0 = σ 1 j0 := by
  unfold m_at
  by_cases c_30 : (m_fi_r σ (σ 1 (264 + 28 * r + 0)) (σ 1 (264 + 28 * r + 1)) ((m_up_r σ (mln σ)) &&& ((σ 1 (264 + 28 * r + 9)) ^^^ ((-1) : Int32)))) = 0
  · rw [if_pos c_30]
    exact ((pr_upk (by omega)).trans ((pr_upk (by omega)).trans (congrFun (fr_m_fi (by decide)) _)))
  · rw [if_neg c_30]
    exact ((pr_upk (by omega)).trans ((pr_upk (by omega)).trans ((pr_upk (by omega)).trans ((fv_m_at_it62 hj (fun m hm => by cases hm)).trans ((pr_upk (by omega)).trans (congrFun (fr_m_fi (by decide)) _))))))
theorem fv_m_tr_it0 {σ : pr_I} {r : Nat} {j0 : Nat} (hj : j0 < 96) (hmw : ∀ m ∈ ([9] : List Nat), j0 ≠ m) : ∀ {k : Nat}, (m_tr_it0 σ r k) 1 j0 = σ 1 j0 := by
  simp only [List.mem_cons, List.not_mem_nil, or_false, forall_eq_or_imp, forall_eq] at hmw
  intro k
  induction k with
  | zero => rfl
  | succ k ih =>
    by_cases c_13 : ((m_tr_it0 σ r k) 1 (264 + 28 * r + 6)) = (σ 1 0)
    · refine (congrArg (fun z : pr_I => z 1 j0) (if_pos c_13)).trans ?_
      by_cases c_24 : ((m_tr_it0 σ r k) 1 (264 + 28 * r + 4)) = (7 : Int32)
      · refine (congrArg (fun z : pr_I => z 1 j0) (if_pos c_24)).trans ?_
        show (m_at (m_tr_it0 σ r k) r) 1 j0 = σ 1 j0
        exact ((fv_m_at hj (fun m hm => by cases hm)).trans ih)
      · refine (congrArg (fun z : pr_I => z 1 j0) (if_neg c_24)).trans ?_
        by_cases c_41 : ((m_tr_it0 σ r k) 1 (264 + 28 * r + 4)) = 0
        · refine (congrArg (fun z : pr_I => z 1 j0) (if_pos c_41)).trans ?_
          show (m_fw (m_tr_it0 σ r k) r) 1 j0 = σ 1 j0
          exact ((fv_m_fw hj (by simp only [List.mem_cons, List.not_mem_nil, or_false, forall_eq_or_imp, forall_eq]; omega)).trans ih)
        · refine (congrArg (fun z : pr_I => z 1 j0) (if_neg c_41)).trans ?_
          show (m_bk (m_tr_it0 σ r k) r) 1 j0 = σ 1 j0
          exact ((fv_m_bk hj (fun m hm => by cases hm)).trans ih)
    · refine (congrArg (fun z : pr_I => z 1 j0) (if_neg c_13)).trans ?_
      show (m_tr_it0 σ r k) 1 j0 = σ 1 j0
      exact ih
theorem fv_m_tr {σ : pr_I} {r : Nat} {j0 : Nat} (hj : j0 < 96) (hmw : ∀ m ∈ ([9] : List Nat), j0 ≠ m) : m_tr σ r 1 j0 = σ 1 j0 := by
  simp only [List.mem_cons, List.not_mem_nil, or_false, forall_eq_or_imp, forall_eq] at hmw
  unfold m_tr
  exact (fv_m_tr_it0 hj (by simp only [List.mem_cons, List.not_mem_nil, or_false, forall_eq_or_imp, forall_eq]; omega))
theorem fv_m_ts_it12 {σ : pr_I} {j0 : Nat} (hj : j0 < 96) (hmw : ∀ m ∈ ([] : List Nat), j0 ≠ m) : ∀ {k : Nat}, (m_ts_it12 σ k) 1 j0 = (pr_up σ 1 0 ((σ 1 0) + (1 : Int32))) 1 j0 := by
  intro k
  induction k with
  | zero => rfl
  | succ k ih =>
    by_cases c_29 : ((m_ts_it12 σ k) 1 (1384 + 8 * k + 5)) = 0
    · refine (congrArg (fun z : pr_I => z 1 j0) (if_pos c_29)).trans ?_
      by_cases c_44 : ((m_ts_it12 σ k) 1 (1384 + 8 * k + 4)) = ((σ 1 0) + (1 : Int32))
      · refine (congrArg (fun z : pr_I => z 1 j0) (if_pos c_44)).trans ?_
        show (m_exp (m_ts_it12 σ k) k) 1 j0 = (pr_up σ 1 0 ((σ 1 0) + (1 : Int32))) 1 j0
        exact ((fv_m_exp hj (fun m hm => by cases hm)).trans ih)
      · refine (congrArg (fun z : pr_I => z 1 j0) (if_neg c_44)).trans ?_
        show (m_ts_it12 σ k) 1 j0 = (pr_up σ 1 0 ((σ 1 0) + (1 : Int32))) 1 j0
        exact ih
    · refine (congrArg (fun z : pr_I => z 1 j0) (if_neg c_29)).trans ?_
      show (m_ts_it12 σ k) 1 j0 = (pr_up σ 1 0 ((σ 1 0) + (1 : Int32))) 1 j0
      exact ih
theorem fv_m_ts_it60 {σ : pr_I} {j0 : Nat} (hj : j0 < 96) (hmw : ∀ m ∈ ([] : List Nat), j0 ≠ m) : ∀ {k : Nat}, (m_ts_it60 σ k) 1 j0 = (m_ts_it12 σ (mtn σ)) 1 j0 := by
  intro k
  induction k with
  | zero => rfl
  | succ k ih =>
    by_cases c_78 : ((m_ts_it60 σ k) 1 (264 + 28 * k + 4)) = (2 : Int32)
    · refine (congrArg (fun z : pr_I => z 1 j0) (if_pos c_78)).trans ?_
      by_cases c_94 : ((m_ts_it60 σ k) 1 (264 + 28 * k + 11)) = ((σ 1 0) + (1 : Int32))
      · refine (congrArg (fun z : pr_I => z 1 j0) (if_pos c_94)).trans ?_
        show (m_end (m_ts_it60 σ k) k) 1 j0 = (m_ts_it12 σ (mtn σ)) 1 j0
        exact ((fv_m_end hj (fun m hm => by cases hm)).trans ih)
      · refine (congrArg (fun z : pr_I => z 1 j0) (if_neg c_94)).trans ?_
        show (m_ts_it60 σ k) 1 j0 = (m_ts_it12 σ (mtn σ)) 1 j0
        exact ih
    · refine (congrArg (fun z : pr_I => z 1 j0) (if_neg c_78)).trans ?_
      show (m_ts_it60 σ k) 1 j0 = (m_ts_it12 σ (mtn σ)) 1 j0
      exact ih
theorem fv_m_ts_it110 {σ : pr_I} {j0 : Nat} (hj : j0 < 96) (hmw : ∀ m ∈ ([9] : List Nat), j0 ≠ m) : ∀ {k : Nat}, (m_ts_it110 σ k) 1 j0 = (m_ts_it60 σ (mrn σ)) 1 j0 := by
  simp only [List.mem_cons, List.not_mem_nil, or_false, forall_eq_or_imp, forall_eq] at hmw
  intro k
  induction k with
  | zero => rfl
  | succ k ih =>
    show (m_tr (m_ts_it110 σ k) k) 1 j0 = (m_ts_it60 σ (mrn σ)) 1 j0
    exact ((fv_m_tr hj (by simp only [List.mem_cons, List.not_mem_nil, or_false, forall_eq_or_imp, forall_eq]; omega)).trans ih)
theorem fv_m_ts {σ : pr_I}  {j0 : Nat} (hj : j0 < 96) (hmw : ∀ m ∈ ([0, 9] : List Nat), j0 ≠ m) : m_ts σ 1 j0 = σ 1 j0 := by
  simp only [List.mem_cons, List.not_mem_nil, or_false, forall_eq_or_imp, forall_eq] at hmw
  unfold m_ts
  exact ((fv_m_ts_it110 hj (by simp only [List.mem_cons, List.not_mem_nil, or_false, forall_eq_or_imp, forall_eq]; omega)).trans ((fv_m_ts_it60 hj (fun m hm => by cases hm)).trans ((fv_m_ts_it12 hj (fun m hm => by cases hm)).trans (pr_upk (by omega)))))
theorem fv_m_mk_it12 {σ : pr_I} {s : Int32} {t : Int32} {u : Int32} {q : Int32} {j0 : Nat} (hj : j0 < 96) (hmw : ∀ m ∈ ([] : List Nat), j0 ≠ m) : ∀ {k : Nat}, (m_mk_it12 σ s t u q k) 1 j0 = σ 1 j0 := by
  intro k
  induction k with
  | zero => rfl
  | succ k ih =>
    show (pr_up (m_mk_it12 σ s t u q k) 1 (264 + 28 * (mrn σ) + k) (0 : Int32)) 1 j0 = σ 1 j0
    exact ((pr_upk (by omega)).trans ih)
theorem fv_m_mk {σ : pr_I} {s : Int32} {t : Int32} {u : Int32} {q : Int32} {j0 : Nat} (hj : j0 < 96) (hmw : ∀ m ∈ ([8, 9] : List Nat), j0 ≠ m) : m_mk σ s t u q 1 j0 = σ 1 j0 := by
  simp only [List.mem_cons, List.not_mem_nil, or_false, forall_eq_or_imp, forall_eq] at hmw
  unfold m_mk
  exact ((fv_m_tr hj (by simp only [List.mem_cons, List.not_mem_nil, or_false, forall_eq_or_imp, forall_eq]; omega)).trans ((fv_m_at hj (fun m hm => by cases hm)).trans ((pr_upk (by omega)).trans ((pr_upk (by omega)).trans ((pr_upk (by omega)).trans ((pr_upk (by omega)).trans ((pr_upk (by omega)).trans ((pr_upk (by omega)).trans ((pr_upk (by omega)).trans ((pr_upk (by omega)).trans (fv_m_mk_it12 hj (fun m hm => by cases hm))))))))))))
theorem fv_m_gn_fl2 {σ : pr_I} {z : Int32} {j0 : Nat} (hj : j0 < 96) (hmw : ∀ m ∈ ([0, 9] : List Nat), j0 ≠ m) : ∀ {j : Nat} {σ1 : pr_I} {x2 : Int32}, (m_gn_fl2 σ z j σ1 x2) 1 j0 = σ1 1 j0 := by
  simp only [List.mem_cons, List.not_mem_nil, or_false, forall_eq_or_imp, forall_eq] at hmw
  intro j
  induction j with
  | zero => intro _ _; rfl
  | succ j ih =>
    intro σ1 x2
    show ((if z ≤ x2 then σ1 else (if (x2 + (m_po_r σ1 (z - x2))) = z then (m_po σ1 (z - x2)) else (m_gn_fl2 σ z j (m_ts (m_po σ1 (z - x2))) ((x2 + (m_po_r σ1 (z - x2))) + Int32.ofInt (1)))))) 1 j0 = σ1 1 j0
    by_cases c_4 : z ≤ x2
    · refine (congrArg (fun z : pr_I => z 1 j0) (if_pos c_4)).trans ?_
      exact rfl
    · refine (congrArg (fun z : pr_I => z 1 j0) (if_neg c_4)).trans ?_
      by_cases c_19 : (x2 + (m_po_r σ1 (z - x2))) = z
      · refine (congrArg (fun z : pr_I => z 1 j0) (if_pos c_19)).trans ?_
        exact (fv_m_po hj (by simp only [List.mem_cons, List.not_mem_nil, or_false, forall_eq_or_imp, forall_eq]; omega))
      · refine (congrArg (fun z : pr_I => z 1 j0) (if_neg c_19)).trans ?_
        exact (ih.trans ((fv_m_ts hj (by simp only [List.mem_cons, List.not_mem_nil, or_false, forall_eq_or_imp, forall_eq]; omega)).trans (fv_m_po hj (by simp only [List.mem_cons, List.not_mem_nil, or_false, forall_eq_or_imp, forall_eq]; omega))))
theorem fv_m_gn {σ : pr_I} {z : Int32} {j0 : Nat} (hj : j0 < 96) (hmw : ∀ m ∈ ([0, 9] : List Nat), j0 ≠ m) : m_gn σ z 1 j0 = σ 1 j0 := by
  simp only [List.mem_cons, List.not_mem_nil, or_false, forall_eq_or_imp, forall_eq] at hmw
  unfold m_gn
  exact (fv_m_gn_fl2 hj (by simp only [List.mem_cons, List.not_mem_nil, or_false, forall_eq_or_imp, forall_eq]; omega))
theorem fv_m_ua_fl2 {σ : pr_I} {r : Nat} {j0 : Nat} (hj : j0 < 96) (hmw : ∀ m ∈ ([0, 9] : List Nat), j0 ≠ m) : ∀ {j : Nat} {σ1 : pr_I} {x2 : Int32}, (m_ua_fl2 σ r j σ1 x2).1 1 j0 = σ1 1 j0 := by
  simp only [List.mem_cons, List.not_mem_nil, or_false, forall_eq_or_imp, forall_eq] at hmw
  intro j
  induction j with
  | zero => intro _ _; rfl
  | succ j ih =>
    intro σ1 x2
    show ((if (σ1 1 (264 + 28 * r + 4)) = (2 : Int32) then (σ1, (if (σ1 1 (264 + 28 * r + 4)) = (2 : Int32) then (if x2 ≤ (2000 : Int32) then x2 else ((-1) : Int32)) else ((-1) : Int32))) else (if (2000 : Int32) < x2 then (σ1, (if (σ1 1 (264 + 28 * r + 4)) = (2 : Int32) then (if x2 ≤ (2000 : Int32) then x2 else ((-1) : Int32)) else ((-1) : Int32))) else (if (m_ne_r σ1) = ((-1) : Int32) then (σ1, (if (σ1 1 (264 + 28 * r + 4)) = (2 : Int32) then (if x2 ≤ (2000 : Int32) then x2 else ((-1) : Int32)) else ((-1) : Int32))) else (m_ua_fl2 σ r j (m_ts (m_po σ1 ((2000 : Int32) - x2))) ((x2 + (m_po_r σ1 ((2000 : Int32) - x2))) + Int32.ofInt (1))))))).1 1 j0 = σ1 1 j0
    by_cases c_9 : (σ1 1 (264 + 28 * r + 4)) = (2 : Int32)
    · refine (congrArg (fun z : pr_I × Int32 => z.1 1 j0) (if_pos c_9)).trans ?_
      exact rfl
    · refine (congrArg (fun z : pr_I × Int32 => z.1 1 j0) (if_neg c_9)).trans ?_
      by_cases c_16 : (2000 : Int32) < x2
      · refine (congrArg (fun z : pr_I × Int32 => z.1 1 j0) (if_pos c_16)).trans ?_
        exact rfl
      · refine (congrArg (fun z : pr_I × Int32 => z.1 1 j0) (if_neg c_16)).trans ?_
        by_cases c_24 : (m_ne_r σ1) = ((-1) : Int32)
        · refine (congrArg (fun z : pr_I × Int32 => z.1 1 j0) (if_pos c_24)).trans ?_
          exact rfl
        · refine (congrArg (fun z : pr_I × Int32 => z.1 1 j0) (if_neg c_24)).trans ?_
          exact (ih.trans ((fv_m_ts hj (by simp only [List.mem_cons, List.not_mem_nil, or_false, forall_eq_or_imp, forall_eq]; omega)).trans (fv_m_po hj (by simp only [List.mem_cons, List.not_mem_nil, or_false, forall_eq_or_imp, forall_eq]; omega))))
theorem fv_m_ua {σ : pr_I} {r : Nat} {j0 : Nat} (hj : j0 < 96) (hmw : ∀ m ∈ ([0, 9] : List Nat), j0 ≠ m) : m_ua σ r 1 j0 = σ 1 j0 := by
  simp only [List.mem_cons, List.not_mem_nil, or_false, forall_eq_or_imp, forall_eq] at hmw
  unfold m_ua
  exact (fv_m_ua_fl2 hj (by simp only [List.mem_cons, List.not_mem_nil, or_false, forall_eq_or_imp, forall_eq]; omega))
theorem fv_mf_setCapacity {σ : pr_I} {k : Nat} {z : Int32} {j0 : Nat} (hj : j0 < 96) (hmw : ∀ m ∈ ([] : List Nat), j0 ≠ m) : mf_setCapacity σ k z 1 j0 = σ 1 j0 := by
  unfold mf_setCapacity
  by_cases c_41 : (m_prom_r (pr_up σ 0 6 (0 : Int32)) (mtn σ) (nI k)) ≤ z
  · rw [if_pos c_41]
    exact ((pr_upk (by omega)).trans (pr_upv (by decide)))
  · rw [if_neg c_41]
    exact (pr_upv (by decide))
theorem fv_mf_takeDown {σ : pr_I} {k : Nat} {j0 : Nat} (hj : j0 < 96) (hmw : ∀ m ∈ ([] : List Nat), j0 ≠ m) : mf_takeDown σ k 1 j0 = σ 1 j0 := by
  unfold mf_takeDown
  by_cases c_16 : (σ 1 (96 + 7 * k + 5)) = 0
  · rw [if_pos c_16]
    exact (pr_upv (by decide))
  · rw [if_neg c_16]
    exact ((fv_m_dn hj (fun m hm => by cases hm)).trans (pr_upv (by decide)))
theorem fv_mf_bringUp {σ : pr_I} {k : Nat} {j0 : Nat} (hj : j0 < 96) (hmw : ∀ m ∈ ([] : List Nat), j0 ≠ m) : mf_bringUp σ k 1 j0 = σ 1 j0 := by
  unfold mf_bringUp
  by_cases c_17 : (σ 1 (96 + 7 * k + 5)) = (1 : Int32)
  · rw [if_pos c_17]
    exact (pr_upv (by decide))
  · rw [if_neg c_17]
    exact ((pr_upk (by omega)).trans (pr_upv (by decide)))
theorem fv_mf_request {σ : pr_I} {s : Nat} {t : Nat} {u : Int32} {q : Int32} {j0 : Nat} (hj : j0 < 96) (hmw : ∀ m ∈ ([8, 9] : List Nat), j0 ≠ m) : mf_request σ s t u q 1 j0 = σ 1 j0 := by
  simp only [List.mem_cons, List.not_mem_nil, or_false, forall_eq_or_imp, forall_eq] at hmw
  unfold mf_request
  by_cases c_58 : (nI (mrn σ)) = (nI 40)
  · rw [if_pos c_58]
    exact (pr_upv (by decide))
  · rw [if_neg c_58]
    exact ((fv_m_mk hj (by simp only [List.mem_cons, List.not_mem_nil, or_false, forall_eq_or_imp, forall_eq]; omega)).trans (pr_upv (by decide)))
theorem fv_mf_cancel_it45 {σ : pr_I} {k : Nat} {j0 : Nat} (hj : j0 < 96) (hmw : ∀ m ∈ ([] : List Nat), j0 ≠ m) : ∀ {i : Nat}, (mf_cancel_it45 σ k i).1 1 j0 = (pr_up σ 0 6 (0 : Int32)) 1 j0 := by
  intro i
  induction i with
  | zero => rfl
  | succ i ih =>
    by_cases c_65 : ((mf_cancel_it45 σ k i).1 1 (1384 + 8 * i + 0)) = (nI k)
    · refine (congrArg (fun z : pr_I × Int32 => z.1 1 j0) (if_pos c_65)).trans ?_
      by_cases c_74 : (m_kept_r (mf_cancel_it45 σ k i).1 i) = 0
      · refine (congrArg (fun z : pr_I × Int32 => z.1 1 j0) (if_pos c_74)).trans ?_
        show (mf_cancel_it45 σ k i).1 1 j0 = (pr_up σ 0 6 (0 : Int32)) 1 j0
        exact ih
      · refine (congrArg (fun z : pr_I × Int32 => z.1 1 j0) (if_neg c_74)).trans ?_
        show (m_gb (pr_up (mf_cancel_it45 σ k i).1 1 (1384 + 8 * i + 5) (3 : Int32)) i (((if (σ 1 (264 + 28 * k + 4)) = (2 : Int32) then (m_un_r (mf_cancel_it45 σ k i).1 k i) else ((mf_cancel_it45 σ k i).1 1 (1384 + 8 * i + 6))) * (σ 1 5)) / (100 : Int32))) 1 j0 = (pr_up σ 0 6 (0 : Int32)) 1 j0
        exact ((fv_m_gb hj (fun m hm => by cases hm)).trans ((pr_upk (by omega)).trans ih))
    · refine (congrArg (fun z : pr_I × Int32 => z.1 1 j0) (if_neg c_65)).trans ?_
      show (mf_cancel_it45 σ k i).1 1 j0 = (pr_up σ 0 6 (0 : Int32)) 1 j0
      exact ih
theorem fv_mf_cancel {σ : pr_I} {k : Nat} {j0 : Nat} (hj : j0 < 96) (hmw : ∀ m ∈ ([] : List Nat), j0 ≠ m) : mf_cancel σ k 1 j0 = σ 1 j0 := by
  unfold mf_cancel
  by_cases c_18 : (σ 1 (264 + 28 * k + 4)) = 0
  · rw [if_pos c_18]
    exact ((fv_m_st hj (fun m hm => by cases hm)).trans ((fv_mf_cancel_it45 hj (fun m hm => by cases hm)).trans (pr_upv (by decide))))
  · rw [if_neg c_18]
    by_cases c_23 : (σ 1 (264 + 28 * k + 4)) = (1 : Int32)
    · rw [if_pos c_23]
      exact ((fv_m_st hj (fun m hm => by cases hm)).trans ((fv_mf_cancel_it45 hj (fun m hm => by cases hm)).trans (pr_upv (by decide))))
    · rw [if_neg c_23]
      by_cases c_28 : (σ 1 (264 + 28 * k + 4)) = (2 : Int32)
      · rw [if_pos c_28]
        exact ((fv_m_st hj (fun m hm => by cases hm)).trans ((fv_mf_cancel_it45 hj (fun m hm => by cases hm)).trans (pr_upv (by decide))))
      · rw [if_neg c_28]
        by_cases c_34 : (σ 1 (264 + 28 * k + 4)) = (7 : Int32)
        · rw [if_pos c_34]
          exact ((fv_m_st hj (fun m hm => by cases hm)).trans ((fv_mf_cancel_it45 hj (fun m hm => by cases hm)).trans (pr_upv (by decide))))
        · rw [if_neg c_34]
          exact (pr_upv (by decide))
theorem fv_mf_extend_it14 {σ : pr_I} {k : Nat} {j0 : Nat} (hj : j0 < 96) (hmw : ∀ m ∈ ([] : List Nat), j0 ≠ m) : ∀ {i : Nat}, (mf_extend_it14 σ k i).1 1 j0 = (pr_up σ 0 6 (0 : Int32)) 1 j0 := by
  intro i
  induction i with
  | zero => rfl
  | succ i ih =>
    by_cases c_32 : ((mf_extend_it14 σ k i).1 1 (1384 + 8 * i + 0)) = (nI k)
    · refine (congrArg (fun z : pr_I × Int32 => z.1 1 j0) (if_pos c_32)).trans ?_
      by_cases c_41 : ((mf_extend_it14 σ k i).1 1 (1384 + 8 * i + 5)) = 0
      · refine (congrArg (fun z : pr_I × Int32 => z.1 1 j0) (if_pos c_41)).trans ?_
        show (pr_up (mf_extend_it14 σ k i).1 1 (1384 + 8 * i + 4) (if ((mf_extend_it14 σ k i).1 1 (1384 + 8 * i + 4)) < ((σ 1 0) + (σ 1 1)) then ((σ 1 0) + (σ 1 1)) else ((mf_extend_it14 σ k i).1 1 (1384 + 8 * i + 4)))) 1 j0 = (pr_up σ 0 6 (0 : Int32)) 1 j0
        exact ((pr_upk (by omega)).trans ih)
      · refine (congrArg (fun z : pr_I × Int32 => z.1 1 j0) (if_neg c_41)).trans ?_
        show (mf_extend_it14 σ k i).1 1 j0 = (pr_up σ 0 6 (0 : Int32)) 1 j0
        exact ih
    · refine (congrArg (fun z : pr_I × Int32 => z.1 1 j0) (if_neg c_32)).trans ?_
      show (mf_extend_it14 σ k i).1 1 j0 = (pr_up σ 0 6 (0 : Int32)) 1 j0
      exact ih
theorem fv_mf_extend {σ : pr_I} {k : Nat} {j0 : Nat} (hj : j0 < 96) (hmw : ∀ m ∈ ([] : List Nat), j0 ≠ m) : mf_extend σ k 1 j0 = σ 1 j0 := by
  unfold mf_extend
  exact ((fv_mf_extend_it14 hj (fun m hm => by cases hm)).trans (pr_upv (by decide)))
theorem fv_mf_advance {σ : pr_I} {z : Int32} {j0 : Nat} (hj : j0 < 96) (hmw : ∀ m ∈ ([0, 9] : List Nat), j0 ≠ m) : mf_advance σ z 1 j0 = σ 1 j0 := by
  simp only [List.mem_cons, List.not_mem_nil, or_false, forall_eq_or_imp, forall_eq] at hmw
  unfold mf_advance
  by_cases c_43 : ((σ 1 0) + z) ≤ (1000000 : Int32)
  · rw [if_pos c_43]
    exact ((fv_m_gn hj (by simp only [List.mem_cons, List.not_mem_nil, or_false, forall_eq_or_imp, forall_eq]; omega)).trans (pr_upv (by decide)))
  · rw [if_neg c_43]
    exact (pr_upv (by decide))
