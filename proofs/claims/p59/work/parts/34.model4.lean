noncomputable def m_fa_it2 (σ : pr_I) (r : Nat) (x : Int32) : Nat → pr_I
  | 0 => σ
  | k + 1 => (if ((m_fa_it2 σ r x k) 1 (1384 + 8 * k + 0)) = (nI r) then (if (m_kept_r (m_fa_it2 σ r x k) k) = 0 then (m_fa_it2 σ r x k) else (m_gb (pr_up (m_fa_it2 σ r x k) 1 (1384 + 8 * k + 5) (3 : Int32)) k ((m_fa_it2 σ r x k) 1 (1384 + 8 * k + 6)))) else (m_fa_it2 σ r x k))
theorem fr_m_fa_it2 {σ : pr_I} {r : Nat} {x : Int32} {o : Nat} (hms : ∀ m ∈ ([1] : List Nat), o ≠ m) : ∀ {k : Nat}, (m_fa_it2 σ r x k) o = σ o := by
  simp only [List.mem_cons, List.not_mem_nil, or_false, forall_eq_or_imp, forall_eq] at hms
  intro k
  induction k with
  | zero =>
    show σ o = σ o
    rfl
  | succ k ih =>
    by_cases c_20 : ((m_fa_it2 σ r x k) 1 (1384 + 8 * k + 0)) = (nI r)
    · refine (congrFun (congrArg (fun z : pr_I => z) (if_pos c_20)) o).trans ?_
      by_cases c_28 : (m_kept_r (m_fa_it2 σ r x k) k) = 0
      · refine (congrFun (congrArg (fun z : pr_I => z) (if_pos c_28)) o).trans ?_
        show (m_fa_it2 σ r x k) o = σ o
        rw [ih]
      · refine (congrFun (congrArg (fun z : pr_I => z) (if_neg c_28)) o).trans ?_
        show (m_gb (pr_up (m_fa_it2 σ r x k) 1 (1384 + 8 * k + 5) (3 : Int32)) k ((m_fa_it2 σ r x k) 1 (1384 + 8 * k + 6))) o = σ o
        rw [fr_m_gb (by simp only [List.mem_cons, List.not_mem_nil, or_false, forall_eq_or_imp, forall_eq]; omega), pr_up_ne (by omega), ih]
    · refine (congrFun (congrArg (fun z : pr_I => z) (if_neg c_20)) o).trans ?_
      show (m_fa_it2 σ r x k) o = σ o
      rw [ih]
theorem fw_m_fa_it2 {σ : pr_I} {r : Nat} {x : Int32} {j0 : Nat} (hj : j0 < 12) (hmw : ∀ m ∈ ([] : List Nat), j0 ≠ m) : ∀ {k : Nat}, (m_fa_it2 σ r x k) 1 j0 = σ 1 j0 := by
  intro k
  induction k with
  | zero => rfl
  | succ k ih =>
    by_cases c_20 : ((m_fa_it2 σ r x k) 1 (1384 + 8 * k + 0)) = (nI r)
    · refine (congrArg (fun z : pr_I => z 1 j0) (if_pos c_20)).trans ?_
      by_cases c_28 : (m_kept_r (m_fa_it2 σ r x k) k) = 0
      · refine (congrArg (fun z : pr_I => z 1 j0) (if_pos c_28)).trans ?_
        show (m_fa_it2 σ r x k) 1 j0 = σ 1 j0
        exact ih
      · refine (congrArg (fun z : pr_I => z 1 j0) (if_neg c_28)).trans ?_
        show (m_gb (pr_up (m_fa_it2 σ r x k) 1 (1384 + 8 * k + 5) (3 : Int32)) k ((m_fa_it2 σ r x k) 1 (1384 + 8 * k + 6))) 1 j0 = σ 1 j0
        exact ((fw_m_gb hj (fun m hm => by cases hm)).trans ((pr_upk (by omega)).trans ih))
    · refine (congrArg (fun z : pr_I => z 1 j0) (if_neg c_20)).trans ?_
      show (m_fa_it2 σ r x k) 1 j0 = σ 1 j0
      exact ih

noncomputable def m_fa (σ : pr_I) (r : Nat) (x : Int32) : pr_I := (pr_up (pr_up (pr_up (pr_up (pr_up (pr_up (m_fa_it2 σ r x (mtn σ)) 1 (264 + 28 * r + 9) (((m_fa_it2 σ r x (mtn σ)) 1 (264 + 28 * r + 9)) ||| ((1 : Int32) <<< (x &&& 31)))) 1 (264 + 28 * r + 5) (((m_fa_it2 σ r x (mtn σ)) 1 (264 + 28 * r + 5)) + (1 : Int32))) 1 (264 + 28 * r + 12) x) 1 (96 + 7 * x.toNatClampNeg + 6) (((m_fa_it2 σ r x (mtn σ)) 1 (96 + 7 * x.toNatClampNeg + 6)) + (1 : Int32))) 1 (264 + 28 * r + 4) (if (if (((m_fa_it2 σ r x (mtn σ)) 1 (264 + 28 * r + 5)) + (1 : Int32)) < (σ 1 3) then (nI 0) else (1 : Int32)) = 0 then (7 : Int32) else (4 : Int32))) 1 (264 + 28 * r + 6) (if (if (((m_fa_it2 σ r x (mtn σ)) 1 (264 + 28 * r + 5)) + (1 : Int32)) < (σ 1 3) then (nI 0) else (1 : Int32)) = 0 then ((σ 1 0) + (σ 1 2)) else ((-1) : Int32)))
theorem mI_m_fa_it2 {σ : pr_I} {r : Nat} {x : Int32} (hI : mI σ) : ∀ k, k ≤ 500 → mI (m_fa_it2 σ r x k)
  | 0, _ => hI
  | k + 1, hk => by
    have ih := mI_m_fa_it2 (r := r) (x := x) hI k (by omega)
    unfold m_fa_it2
    refine I_ite (P := mI) (I_ite (P := mI) ih (mI_m_gb (by omega) (mI.upn ih ((mW_tick (by omega) (by decide)).trans rfl)))) ih
theorem fr_m_fa {σ : pr_I} {r : Nat} {x : Int32} {o : Nat} (hms : ∀ m ∈ ([1] : List Nat), o ≠ m) : m_fa σ r x o = σ o := by
  unfold m_fa
  simp only [List.mem_cons, List.not_mem_nil, or_false, forall_eq_or_imp, forall_eq] at hms
  rw [pr_up_ne (by omega), pr_up_ne (by omega), pr_up_ne (by omega), pr_up_ne (by omega), pr_up_ne (by omega), pr_up_ne (by omega), fr_m_fa_it2 (by simp only [List.mem_cons, List.not_mem_nil, or_false, forall_eq_or_imp, forall_eq]; omega)]

theorem fw_m_fa {σ : pr_I} {r : Nat} {x : Int32} {j0 : Nat} (hj : j0 < 12) (hmw : ∀ m ∈ ([] : List Nat), j0 ≠ m) : m_fa σ r x 1 j0 = σ 1 j0 := by
  unfold m_fa
  exact ((pr_upk (by omega)).trans ((pr_upk (by omega)).trans ((pr_upk (by omega)).trans ((pr_upk (by omega)).trans ((pr_upk (by omega)).trans ((pr_upk (by omega)).trans (fw_m_fa_it2 hj (fun m hm => by cases hm))))))))
theorem mI_m_fa {σ : pr_I} {r : Nat} {x : Int32} (hr : r < 40) (hx : vp_in x 24) (hI : mI σ) : mI (m_fa σ r x) := by
  have h0 := mI_m_fa_it2 (r := r) (x := x) hI (mtn σ) (mI_n5 hI)
  have q : ∀ {c : Nat} {S : pr_I} {v : Int32}, c < 28 → mR c = none → mI S → mI (pr_up S 1 (264 + 28 * r + c) v) := fun hc e h => mI.upn h ((mW_req hr hc).trans e)
  unfold m_fa
  exact q (by decide) rfl (q (by decide) rfl (mI.upn (q (by decide) rfl (q (by decide) rfl (q (by decide) rfl h0))) ((mW_link (vp_in_lt hx) (by decide)).trans rfl)))
theorem nI_addx {a n : Nat} {x : Int32} (hx : vp_in x n) (hn : n < 2 ^ 31) : nI a + x = nI (a + x.toNatClampNeg) := by
  obtain ⟨j, hj, rfl⟩ := vp_in_of hx hn
  rw [nI_clamp (by omega), nI_add]
theorem mR_path {p : Nat} (h : p < 11) : mR (15 + p) = some 24 := by
  unfold mR
  rw [if_neg (by omega), if_neg (by omega), if_neg (by omega), if_neg (by omega), if_neg (by omega), if_pos (by omega)]
noncomputable def m_is (σ : pr_I) (r : Nat) (x : Int32) : pr_I := (pr_up (pr_up (pr_up (pr_up (pr_up (pr_up (pr_up (pr_up (pr_up (pr_up σ 1 (1384 + 8 * (mtn σ) + 0) (nI r)) 1 (1384 + 8 * (mtn σ) + 1) x) 1 (1384 + 8 * (mtn σ) + 2) (σ 1 (264 + 28 * r + 2))) 1 (1384 + 8 * (mtn σ) + 3) (σ 1 0)) 1 (1384 + 8 * (mtn σ) + 4) ((σ 1 0) + (σ 1 1))) 1 (1384 + 8 * (mtn σ) + 5) (0 : Int32)) 1 (1384 + 8 * (mtn σ) + 6) ((σ 1 (96 + 7 * x.toNatClampNeg + 3)) * (σ 1 (264 + 28 * r + 2)))) 1 (1384 + 8 * (mtn σ) + 7) (0 : Int32)) 1 (264 + 28 * r + 7) ((σ 1 (264 + 28 * r + 7)) + ((σ 1 (96 + 7 * x.toNatClampNeg + 3)) * (σ 1 (264 + 28 * r + 2))))) 1 9 (nI ((mtn σ) + 1)))
theorem fr_m_is {σ : pr_I} {r : Nat} {x : Int32} {o : Nat} (hms : ∀ m ∈ ([1] : List Nat), o ≠ m) : m_is σ r x o = σ o := by
  unfold m_is
  simp only [List.mem_cons, List.not_mem_nil, or_false, forall_eq_or_imp, forall_eq] at hms
  rw [pr_up_ne (by omega), pr_up_ne (by omega), pr_up_ne (by omega), pr_up_ne (by omega), pr_up_ne (by omega), pr_up_ne (by omega), pr_up_ne (by omega), pr_up_ne (by omega), pr_up_ne (by omega), pr_up_ne (by omega)]

theorem fw_m_is {σ : pr_I} {r : Nat} {x : Int32} {j0 : Nat} (hj : j0 < 12) (hmw : ∀ m ∈ ([9] : List Nat), j0 ≠ m) : m_is σ r x 1 j0 = σ 1 j0 := by
  simp only [List.mem_cons, List.not_mem_nil, or_false, forall_eq_or_imp, forall_eq] at hmw
  unfold m_is
  exact ((pr_upk (by omega)).trans ((pr_upk (by omega)).trans ((pr_upk (by omega)).trans ((pr_upk (by omega)).trans ((pr_upk (by omega)).trans ((pr_upk (by omega)).trans ((pr_upk (by omega)).trans ((pr_upk (by omega)).trans ((pr_upk (by omega)).trans (pr_upk (by omega)))))))))))
theorem mI_m_is {σ : pr_I} {r : Nat} {x : Int32} (hr : r < 40) (hx : vp_in x 24) (ht5 : mtn σ < 500) (hI : mI σ) : mI (m_is σ r x) := by
  have q : ∀ {c : Nat} {S : pr_I} {v : Int32}, c < 8 → mT c = none → mI S → mI (pr_up S 1 (1384 + 8 * mtn σ + c) v) := fun hc e h => mI.upn h ((mW_tick ht5 hc).trans e)
  unfold m_is
  exact mI.upv (mI.upn (q (by decide) rfl (q (by decide) rfl (q (by decide) rfl (q (by decide) rfl (q (by decide) rfl (q (by decide) rfl (mI.upv (mI.upv hI ((mW_tick ht5 (by decide)).trans rfl) (nI_vin hr (by decide))) ((mW_tick ht5 (by decide)).trans rfl) hx))))))) ((mW_req hr (by decide)).trans rfl)) rfl (nI_vin (by omega) (by decide))
