noncomputable def m_fw (σ : pr_I) (r : Nat) : pr_I := (if (σ 1 (264 + 28 * r + 14)) = (σ 1 (264 + 28 * r + 13)) then (pr_up σ 1 (264 + 28 * r + 4) (1 : Int32)) else (if (σ 1 (96 + 7 * ((σ 1 (264 + 28 * r + (15 + (σ 1 (264 + 28 * r + 14)).toNatClampNeg))).toNatClampNeg) + 5)) = 0 then (m_fa σ r (σ 1 (264 + 28 * r + (15 + (σ 1 (264 + 28 * r + 14)).toNatClampNeg)))) else (if (m_ax_r σ (mtn σ) (σ 1 (264 + 28 * r + (15 + (σ 1 (264 + 28 * r + 14)).toNatClampNeg)))) < (σ 1 (264 + 28 * r + 2)) then (m_fa σ r (σ 1 (264 + 28 * r + (15 + (σ 1 (264 + 28 * r + 14)).toNatClampNeg)))) else (if (nI (mtn σ)) < (nI 500) then (m_go (m_is σ r (σ 1 (264 + 28 * r + (15 + (σ 1 (264 + 28 * r + 14)).toNatClampNeg)))) r ((σ 1 (264 + 28 * r + 14)) + (1 : Int32)) (σ 1 (264 + 28 * r + (15 + (σ 1 (264 + 28 * r + 14)).toNatClampNeg)))) else (m_fa σ r (σ 1 (264 + 28 * r + (15 + (σ 1 (264 + 28 * r + 14)).toNatClampNeg))))))))
theorem fr_m_fw {σ : pr_I} {r : Nat} {o : Nat} (hms : ∀ m ∈ ([1] : List Nat), o ≠ m) : m_fw σ r o = σ o := by
  unfold m_fw
  simp only [List.mem_cons, List.not_mem_nil, or_false, forall_eq_or_imp, forall_eq] at hms
  by_cases c_16 : (σ 1 (264 + 28 * r + 14)) = (σ 1 (264 + 28 * r + 13))
  · refine (congrFun (if_pos c_16) o).trans ?_
    rw [pr_up_ne (by omega)]
  · refine (congrFun (if_neg c_16) o).trans ?_
    by_cases c_43 : (σ 1 (96 + 7 * ((σ 1 (264 + 28 * r + (15 + (σ 1 (264 + 28 * r + 14)).toNatClampNeg))).toNatClampNeg) + 5)) = 0
    · refine (congrFun (if_pos c_43) o).trans ?_
      rw [fr_m_fa (by simp only [List.mem_cons, List.not_mem_nil, or_false, forall_eq_or_imp, forall_eq]; omega)]
    · refine (congrFun (if_neg c_43) o).trans ?_
      by_cases c_57 : (m_ax_r σ (mtn σ) (σ 1 (264 + 28 * r + (15 + (σ 1 (264 + 28 * r + 14)).toNatClampNeg)))) < (σ 1 (264 + 28 * r + 2))
      · refine (congrFun (if_pos c_57) o).trans ?_
        rw [fr_m_fa (by simp only [List.mem_cons, List.not_mem_nil, or_false, forall_eq_or_imp, forall_eq]; omega)]
      · refine (congrFun (if_neg c_57) o).trans ?_
        by_cases c_70 : (nI (mtn σ)) < (nI 500)
        · refine (congrFun (if_pos c_70) o).trans ?_
          rw [fr_m_go (by simp only [List.mem_cons, List.not_mem_nil, or_false, forall_eq_or_imp, forall_eq]; omega), fr_m_is (by simp only [List.mem_cons, List.not_mem_nil, or_false, forall_eq_or_imp, forall_eq]; omega)]
        · refine (congrFun (if_neg c_70) o).trans ?_
          rw [fr_m_fa (by simp only [List.mem_cons, List.not_mem_nil, or_false, forall_eq_or_imp, forall_eq]; omega)]

theorem fw_m_fw {σ : pr_I} {r : Nat} {j0 : Nat} (hj : j0 < 12) (hmw : ∀ m ∈ ([9] : List Nat), j0 ≠ m) : m_fw σ r 1 j0 = σ 1 j0 := by
  simp only [List.mem_cons, List.not_mem_nil, or_false, forall_eq_or_imp, forall_eq] at hmw
  unfold m_fw
  by_cases c_16 : (σ 1 (264 + 28 * r + 14)) = (σ 1 (264 + 28 * r + 13))
  · rw [if_pos c_16]
    exact (pr_upk (by omega))
  · rw [if_neg c_16]
    by_cases c_43 : (σ 1 (96 + 7 * ((σ 1 (264 + 28 * r + (15 + (σ 1 (264 + 28 * r + 14)).toNatClampNeg))).toNatClampNeg) + 5)) = 0
    · rw [if_pos c_43]
      exact (fw_m_fa hj (fun m hm => by cases hm))
    · rw [if_neg c_43]
      by_cases c_57 : (m_ax_r σ (mtn σ) (σ 1 (264 + 28 * r + (15 + (σ 1 (264 + 28 * r + 14)).toNatClampNeg)))) < (σ 1 (264 + 28 * r + 2))
      · rw [if_pos c_57]
        exact (fw_m_fa hj (fun m hm => by cases hm))
      · rw [if_neg c_57]
        by_cases c_70 : (nI (mtn σ)) < (nI 500)
        · rw [if_pos c_70]
          exact ((fw_m_go hj (fun m hm => by cases hm)).trans (fw_m_is hj (by simp only [List.mem_cons, List.not_mem_nil, or_false, forall_eq_or_imp, forall_eq]; omega)))
        · rw [if_neg c_70]
          exact (fw_m_fa hj (fun m hm => by cases hm))
noncomputable def m_ear_r (σ : pr_I) (a : Int32) (b : Int32) : Int32 := (if a = ((-1) : Int32) then b else (if b = ((-1) : Int32) then a else (if b < a then b else a)))
noncomputable def m_nx_it4 (σ : pr_I) : Nat → Int32
  | 0 => ((-1) : Int32)
  | k + 1 => (if (σ 1 (1384 + 8 * k + 5)) = 0 then (m_ear_r σ (m_nx_it4 σ k) (σ 1 (1384 + 8 * k + 4))) else (m_nx_it4 σ k))
noncomputable def m_nx_r (σ : pr_I) : Int32 := (m_nx_it4 σ (mtn σ))
noncomputable def m_ne_it7 (σ : pr_I) : Nat → Int32
  | 0 => (m_nx_r σ)
  | k + 1 => (if (σ 1 (264 + 28 * k + 4)) = (2 : Int32) then (m_ear_r σ (m_ear_r σ (m_ne_it7 σ k) (σ 1 (264 + 28 * k + 6))) (σ 1 (264 + 28 * k + 11))) else (m_ear_r σ (m_ne_it7 σ k) (σ 1 (264 + 28 * k + 6))))
noncomputable def m_ne_r (σ : pr_I) : Int32 := (m_ne_it7 σ (mrn σ))
noncomputable def m_po_r (σ : pr_I) (z : Int32) : Int32 := (if (m_ne_r σ) = ((-1) : Int32) then z else (if (0 : Int32) < (if (((m_ne_r σ) - (σ 1 0)) - (1 : Int32)) < z then (((m_ne_r σ) - (σ 1 0)) - (1 : Int32)) else z) then (if (((m_ne_r σ) - (σ 1 0)) - (1 : Int32)) < z then (((m_ne_r σ) - (σ 1 0)) - (1 : Int32)) else z) else (0 : Int32)))
noncomputable def m_po (σ : pr_I) (z : Int32) : pr_I := (pr_up σ 1 0 ((σ 1 0) + (if (m_ne_r σ) = ((-1) : Int32) then z else (if (0 : Int32) < (if (((m_ne_r σ) - (σ 1 0)) - (1 : Int32)) < z then (((m_ne_r σ) - (σ 1 0)) - (1 : Int32)) else z) then (if (((m_ne_r σ) - (σ 1 0)) - (1 : Int32)) < z then (((m_ne_r σ) - (σ 1 0)) - (1 : Int32)) else z) else (0 : Int32)))))
theorem fr_m_po {σ : pr_I} {z : Int32} {o : Nat} (hms : ∀ m ∈ ([1] : List Nat), o ≠ m) : m_po σ z o = σ o := by
  unfold m_po
  simp only [List.mem_cons, List.not_mem_nil, or_false, forall_eq_or_imp, forall_eq] at hms
  rw [pr_up_ne (by omega)]

theorem fw_m_po {σ : pr_I} {z : Int32} {j0 : Nat} (hj : j0 < 12) (hmw : ∀ m ∈ ([0] : List Nat), j0 ≠ m) : m_po σ z 1 j0 = σ 1 j0 := by
  simp only [List.mem_cons, List.not_mem_nil, or_false, forall_eq_or_imp, forall_eq] at hmw
  unfold m_po
  exact (pr_upk (by omega))
theorem nI_addx1 {a n : Nat} {x : Int32} (hx : vp_in x (n + 1)) (hn : n < 2 ^ 30) (h0 : ¬ x = 0) : nI (a + x.toNatClampNeg) - 1 = nI (a + (x.toNatClampNeg - 1)) := by
  obtain ⟨j, hj, rfl⟩ := vp_in_of hx (by omega)
  rw [nI_clamp (by omega)]
  cases j with
  | zero => exact absurd rfl h0
  | succ j => rw [show a + (j + 1) = (a + j) + 1 from by omega, nI_pred]; congr 1
noncomputable def m_bk (σ : pr_I) (r : Nat) : pr_I := (if (σ 1 (264 + 28 * r + 14)) = 0 then (pr_up (pr_up (pr_up (pr_up σ 1 (264 + 28 * r + 4) (2 : Int32)) 1 (264 + 28 * r + 6) ((-1) : Int32)) 1 (264 + 28 * r + 10) (σ 1 0)) 1 (264 + 28 * r + 11) ((σ 1 0) + (σ 1 (264 + 28 * r + 3)))) else (if (σ 1 (1384 + 8 * ((m_tof_r σ r (σ 1 (264 + 28 * r + (15 + ((σ 1 (264 + 28 * r + 14)).toNatClampNeg - 1))))).toNatClampNeg) + 5)) = 0 then (m_go (pr_up σ 1 (1384 + 8 * ((m_tof_r σ r (σ 1 (264 + 28 * r + (15 + ((σ 1 (264 + 28 * r + 14)).toNatClampNeg - 1))))).toNatClampNeg) + 5) (1 : Int32)) r ((σ 1 (264 + 28 * r + 14)) - (1 : Int32)) (σ 1 (264 + 28 * r + (15 + ((σ 1 (264 + 28 * r + 14)).toNatClampNeg - 1))))) else (m_fa σ r (σ 1 (264 + 28 * r + (15 + ((σ 1 (264 + 28 * r + 14)).toNatClampNeg - 1)))))))
theorem fr_m_bk {σ : pr_I} {r : Nat} {o : Nat} (hms : ∀ m ∈ ([1] : List Nat), o ≠ m) : m_bk σ r o = σ o := by
  unfold m_bk
  simp only [List.mem_cons, List.not_mem_nil, or_false, forall_eq_or_imp, forall_eq] at hms
  by_cases c_9 : (σ 1 (264 + 28 * r + 14)) = 0
  · refine (congrFun (if_pos c_9) o).trans ?_
    rw [pr_up_ne (by omega), pr_up_ne (by omega), pr_up_ne (by omega), pr_up_ne (by omega)]
  · refine (congrFun (if_neg c_9) o).trans ?_
    by_cases c_88 : (σ 1 (1384 + 8 * ((m_tof_r σ r (σ 1 (264 + 28 * r + (15 + ((σ 1 (264 + 28 * r + 14)).toNatClampNeg - 1))))).toNatClampNeg) + 5)) = 0
    · refine (congrFun (if_pos c_88) o).trans ?_
      rw [fr_m_go (by simp only [List.mem_cons, List.not_mem_nil, or_false, forall_eq_or_imp, forall_eq]; omega), pr_up_ne (by omega)]
    · refine (congrFun (if_neg c_88) o).trans ?_
      rw [fr_m_fa (by simp only [List.mem_cons, List.not_mem_nil, or_false, forall_eq_or_imp, forall_eq]; omega)]

theorem fw_m_bk {σ : pr_I} {r : Nat} {j0 : Nat} (hj : j0 < 12) (hmw : ∀ m ∈ ([] : List Nat), j0 ≠ m) : m_bk σ r 1 j0 = σ 1 j0 := by
  unfold m_bk
  by_cases c_9 : (σ 1 (264 + 28 * r + 14)) = 0
  · rw [if_pos c_9]
    exact ((pr_upk (by omega)).trans ((pr_upk (by omega)).trans ((pr_upk (by omega)).trans (pr_upk (by omega)))))
  · rw [if_neg c_9]
    by_cases c_88 : (σ 1 (1384 + 8 * ((m_tof_r σ r (σ 1 (264 + 28 * r + (15 + ((σ 1 (264 + 28 * r + 14)).toNatClampNeg - 1))))).toNatClampNeg) + 5)) = 0
    · rw [if_pos c_88]
      exact ((fw_m_go hj (fun m hm => by cases hm)).trans (pr_upk (by omega)))
    · rw [if_neg c_88]
      exact (fw_m_fa hj (fun m hm => by cases hm))
