def m_fi_ok (σ : pr_I) (s t u : Int32) : Prop := m_lp_it51_e σ t u (sl 13) = true ∧ (¬ (m_lp σ t u) 8 s.toNatClampNeg = (1000000000 : Int32) → m_fi_it27_e σ s t u (sl 12) = true) ∧ (¬ (m_lp σ t u) 8 s.toNatClampNeg = (1000000000 : Int32) → ∀ k, ¬ (m_fi_it27 σ s t u k).2 = t → m_fi_it36_e σ (m_fi_it27 σ s t u k).1 s t u k ((m_fi_it27 σ s t u k).2) (sl 23) = true) ∧ vp_in ((m_fi σ s t u) 0 17) 12
noncomputable def m_df (σ : pr_I) (b : Nat) : Nat → Int32
  | 0 => 0
  | k + 1 => m_df σ b k + σ 1 (96 + 7 * (σ 10 (b + k)).toNatClampNeg + 4)
def mfn (σ : pr_I) : Nat := (σ 0 17).toNatClampNeg
theorem mI_fn {σ : pr_I} (h : mI σ) : σ 0 17 = nI (mfn σ) := vp_nI (h 0 17 13 rfl) (by decide)
theorem mI_fn12 {σ : pr_I} (h : mI σ) : mfn σ ≤ 12 := Nat.le_of_lt_succ (vp_in_lt (h 0 17 13 rfl))
noncomputable def mf_cheapest_r (σ : pr_I) (s : Nat) (t : Nat) (u : Int32) : Int32 := (if (m_fi_r (pr_up σ 0 6 (0 : Int32)) (nI s) (nI t) (m_lw_r (pr_up σ 0 6 (0 : Int32)) (mtn σ) (mln σ) u)) = 0 then ((-1) : Int32) else ((m_fi (pr_up σ 0 6 (0 : Int32)) (nI s) (nI t) (m_lw_r (pr_up σ 0 6 (0 : Int32)) (mtn σ) (mln σ) u)) 8 s))
noncomputable def mf_cheapest (σ : pr_I) (s : Nat) (t : Nat) (u : Int32) : pr_I := (m_fi (pr_up σ 0 6 (0 : Int32)) (nI s) (nI t) (m_lw_r (pr_up σ 0 6 (0 : Int32)) (mtn σ) (mln σ) u))
theorem fr_mf_cheapest {σ : pr_I} {s : Nat} {t : Nat} {u : Int32} {o : Nat} (hms : ∀ m ∈ ([0, 8, 9, 10] : List Nat), o ≠ m) : mf_cheapest σ s t u o = σ o := by
  unfold mf_cheapest
  simp only [List.mem_cons, List.not_mem_nil, or_false, forall_eq_or_imp, forall_eq] at hms
  rw [fr_m_fi (by simp only [List.mem_cons, List.not_mem_nil, or_false, forall_eq_or_imp, forall_eq]; omega), pr_up_ne (by omega)]

noncomputable def mf_roundTrip_r (σ : pr_I) (s : Nat) (t : Nat) (u : Int32) : Int32 := (if (m_fi_r (pr_up σ 0 6 (0 : Int32)) (nI s) (nI t) (m_lw_r (pr_up σ 0 6 (0 : Int32)) (mtn σ) (mln σ) u)) = 0 then ((-1) : Int32) else ((2 : Int32) * (m_df (m_fi (pr_up σ 0 6 (0 : Int32)) (nI s) (nI t) (m_lw_r (pr_up σ 0 6 (0 : Int32)) (mtn σ) (mln σ) u)) 0 (mfn (m_fi (pr_up σ 0 6 (0 : Int32)) (nI s) (nI t) (m_lw_r (pr_up σ 0 6 (0 : Int32)) (mtn σ) (mln σ) u)) - 0))))
noncomputable def mf_roundTrip (σ : pr_I) (s : Nat) (t : Nat) (u : Int32) : pr_I := (m_fi (pr_up σ 0 6 (0 : Int32)) (nI s) (nI t) (m_lw_r (pr_up σ 0 6 (0 : Int32)) (mtn σ) (mln σ) u))
theorem fr_mf_roundTrip {σ : pr_I} {s : Nat} {t : Nat} {u : Int32} {o : Nat} (hms : ∀ m ∈ ([0, 8, 9, 10] : List Nat), o ≠ m) : mf_roundTrip σ s t u o = σ o := by
  unfold mf_roundTrip
  simp only [List.mem_cons, List.not_mem_nil, or_false, forall_eq_or_imp, forall_eq] at hms
  rw [fr_m_fi (by simp only [List.mem_cons, List.not_mem_nil, or_false, forall_eq_or_imp, forall_eq]; omega), pr_up_ne (by omega)]

noncomputable def mf_cheapestLink_r (σ : pr_I) (s : Nat) (t : Nat) (u : Int32) (i : Int32) : Int32 := (if (m_fi_r (pr_up σ 0 6 (0 : Int32)) (nI s) (nI t) (m_lw_r (pr_up σ 0 6 (0 : Int32)) (mtn σ) (mln σ) u)) = 0 then ((-1) : Int32) else (if (m_in_r (m_fi (pr_up σ 0 6 (0 : Int32)) (nI s) (nI t) (m_lw_r (pr_up σ 0 6 (0 : Int32)) (mtn σ) (mln σ) u)) ((i).toInt64) (0 : Int64) (((((m_fi (pr_up σ 0 6 (0 : Int32)) (nI s) (nI t) (m_lw_r (pr_up σ 0 6 (0 : Int32)) (mtn σ) (mln σ) u)) 0 17) - (1 : Int32))).toInt64)) = 0 then ((-1) : Int32) else ((m_fi (pr_up σ 0 6 (0 : Int32)) (nI s) (nI t) (m_lw_r (pr_up σ 0 6 (0 : Int32)) (mtn σ) (mln σ) u)) 10 i.toNatClampNeg)))
noncomputable def mf_cheapestLink (σ : pr_I) (s : Nat) (t : Nat) (u : Int32) (i : Int32) : pr_I := (if (m_fi_r (pr_up σ 0 6 (0 : Int32)) (nI s) (nI t) (m_lw_r (pr_up σ 0 6 (0 : Int32)) (mtn σ) (mln σ) u)) = 0 then (m_fi (pr_up σ 0 6 (0 : Int32)) (nI s) (nI t) (m_lw_r (pr_up σ 0 6 (0 : Int32)) (mtn σ) (mln σ) u)) else (if (m_in_r (m_fi (pr_up σ 0 6 (0 : Int32)) (nI s) (nI t) (m_lw_r (pr_up σ 0 6 (0 : Int32)) (mtn σ) (mln σ) u)) ((i).toInt64) (0 : Int64) (((((m_fi (pr_up σ 0 6 (0 : Int32)) (nI s) (nI t) (m_lw_r (pr_up σ 0 6 (0 : Int32)) (mtn σ) (mln σ) u)) 0 17) - (1 : Int32))).toInt64)) = 0 then (m_fi (pr_up σ 0 6 (0 : Int32)) (nI s) (nI t) (m_lw_r (pr_up σ 0 6 (0 : Int32)) (mtn σ) (mln σ) u)) else (m_fi (pr_up σ 0 6 (0 : Int32)) (nI s) (nI t) (m_lw_r (pr_up σ 0 6 (0 : Int32)) (mtn σ) (mln σ) u))))
theorem fr_mf_cheapestLink {σ : pr_I} {s : Nat} {t : Nat} {u : Int32} {i : Int32} {o : Nat} (hms : ∀ m ∈ ([0, 8, 9, 10] : List Nat), o ≠ m) : mf_cheapestLink σ s t u i o = σ o := by
  unfold mf_cheapestLink
  simp only [List.mem_cons, List.not_mem_nil, or_false, forall_eq_or_imp, forall_eq] at hms
  by_cases c_23 : (m_fi_r (pr_up σ 0 6 (0 : Int32)) (nI s) (nI t) (m_lw_r (pr_up σ 0 6 (0 : Int32)) (mtn σ) (mln σ) u)) = 0
  · refine (congrFun (if_pos c_23) o).trans ?_
    rw [fr_m_fi (by simp only [List.mem_cons, List.not_mem_nil, or_false, forall_eq_or_imp, forall_eq]; omega), pr_up_ne (by omega)]
  · refine (congrFun (if_neg c_23) o).trans ?_
    by_cases c_40 : (m_in_r (m_fi (pr_up σ 0 6 (0 : Int32)) (nI s) (nI t) (m_lw_r (pr_up σ 0 6 (0 : Int32)) (mtn σ) (mln σ) u)) ((i).toInt64) (0 : Int64) (((((m_fi (pr_up σ 0 6 (0 : Int32)) (nI s) (nI t) (m_lw_r (pr_up σ 0 6 (0 : Int32)) (mtn σ) (mln σ) u)) 0 17) - (1 : Int32))).toInt64)) = 0
    · refine (congrFun (if_pos c_40) o).trans ?_
      rw [fr_m_fi (by simp only [List.mem_cons, List.not_mem_nil, or_false, forall_eq_or_imp, forall_eq]; omega), pr_up_ne (by omega)]
    · refine (congrFun (if_neg c_40) o).trans ?_
      rw [fr_m_fi (by simp only [List.mem_cons, List.not_mem_nil, or_false, forall_eq_or_imp, forall_eq]; omega), pr_up_ne (by omega)]

noncomputable def mf_neededHold_it34 (σ : pr_I) (s : Nat) (t : Nat) (u : Int32) : Nat → Int32
  | 0 => (0 : Int32)
  | k + 1 => (if (mf_neededHold_it34 σ s t u k) < (((2 : Int32) * (m_df (m_fi (pr_up σ 0 6 (0 : Int32)) (nI s) (nI t) (m_lw_r (pr_up σ 0 6 (0 : Int32)) (mtn σ) (mln σ) u)) (k + 1) (mfn (m_fi (pr_up σ 0 6 (0 : Int32)) (nI s) (nI t) (m_lw_r (pr_up σ 0 6 (0 : Int32)) (mtn σ) (mln σ) u)) - (k + 1)))) + (σ 1 (96 + 7 * (((m_fi (pr_up σ 0 6 (0 : Int32)) (nI s) (nI t) (m_lw_r (pr_up σ 0 6 (0 : Int32)) (mtn σ) (mln σ) u)) 10 k).toNatClampNeg) + 4))) then (((2 : Int32) * (m_df (m_fi (pr_up σ 0 6 (0 : Int32)) (nI s) (nI t) (m_lw_r (pr_up σ 0 6 (0 : Int32)) (mtn σ) (mln σ) u)) (k + 1) (mfn (m_fi (pr_up σ 0 6 (0 : Int32)) (nI s) (nI t) (m_lw_r (pr_up σ 0 6 (0 : Int32)) (mtn σ) (mln σ) u)) - (k + 1)))) + (σ 1 (96 + 7 * (((m_fi (pr_up σ 0 6 (0 : Int32)) (nI s) (nI t) (m_lw_r (pr_up σ 0 6 (0 : Int32)) (mtn σ) (mln σ) u)) 10 k).toNatClampNeg) + 4))) else (mf_neededHold_it34 σ s t u k))
noncomputable def mf_neededHold_r (σ : pr_I) (s : Nat) (t : Nat) (u : Int32) : Int32 := (if (m_fi_r (pr_up σ 0 6 (0 : Int32)) (nI s) (nI t) (m_lw_r (pr_up σ 0 6 (0 : Int32)) (mtn σ) (mln σ) u)) = 0 then ((-1) : Int32) else ((mf_neededHold_it34 σ s t u (((m_fi (pr_up σ 0 6 (0 : Int32)) (nI s) (nI t) (m_lw_r (pr_up σ 0 6 (0 : Int32)) (mtn σ) (mln σ) u)) 0 17).toNatClampNeg)) + (1 : Int32)))
noncomputable def mf_neededHold (σ : pr_I) (s : Nat) (t : Nat) (u : Int32) : pr_I := (if (m_fi_r (pr_up σ 0 6 (0 : Int32)) (nI s) (nI t) (m_lw_r (pr_up σ 0 6 (0 : Int32)) (mtn σ) (mln σ) u)) = 0 then (m_fi (pr_up σ 0 6 (0 : Int32)) (nI s) (nI t) (m_lw_r (pr_up σ 0 6 (0 : Int32)) (mtn σ) (mln σ) u)) else (m_fi (pr_up σ 0 6 (0 : Int32)) (nI s) (nI t) (m_lw_r (pr_up σ 0 6 (0 : Int32)) (mtn σ) (mln σ) u)))
theorem fr_mf_neededHold {σ : pr_I} {s : Nat} {t : Nat} {u : Int32} {o : Nat} (hms : ∀ m ∈ ([0, 8, 9, 10] : List Nat), o ≠ m) : mf_neededHold σ s t u o = σ o := by
  unfold mf_neededHold
  simp only [List.mem_cons, List.not_mem_nil, or_false, forall_eq_or_imp, forall_eq] at hms
  by_cases c_23 : (m_fi_r (pr_up σ 0 6 (0 : Int32)) (nI s) (nI t) (m_lw_r (pr_up σ 0 6 (0 : Int32)) (mtn σ) (mln σ) u)) = 0
  · refine (congrFun (if_pos c_23) o).trans ?_
    rw [fr_m_fi (by simp only [List.mem_cons, List.not_mem_nil, or_false, forall_eq_or_imp, forall_eq]; omega), pr_up_ne (by omega)]
  · refine (congrFun (if_neg c_23) o).trans ?_
    rw [fr_m_fi (by simp only [List.mem_cons, List.not_mem_nil, or_false, forall_eq_or_imp, forall_eq]; omega), pr_up_ne (by omega)]

noncomputable def mf_widest_it16 (σ : pr_I) (s : Nat) (t : Nat) : Nat → pr_I × Int32
  | 0 => ((pr_up σ 0 6 (0 : Int32)), (0 : Int32))
  | k + 1 => (if (m_av_r (mf_widest_it16 σ s t k).1 (mtn σ) k) ≤ ((mf_widest_it16 σ s t k).2) then ((mf_widest_it16 σ s t k).1, ((mf_widest_it16 σ s t k).2)) else (if (m_fi_r (mf_widest_it16 σ s t k).1 (nI s) (nI t) (m_lw_r (mf_widest_it16 σ s t k).1 (mtn σ) (mln σ) (m_av_r (mf_widest_it16 σ s t k).1 (mtn σ) k))) = 0 then ((m_fi (mf_widest_it16 σ s t k).1 (nI s) (nI t) (m_lw_r (mf_widest_it16 σ s t k).1 (mtn σ) (mln σ) (m_av_r (mf_widest_it16 σ s t k).1 (mtn σ) k))), ((mf_widest_it16 σ s t k).2)) else ((m_fi (mf_widest_it16 σ s t k).1 (nI s) (nI t) (m_lw_r (mf_widest_it16 σ s t k).1 (mtn σ) (mln σ) (m_av_r (mf_widest_it16 σ s t k).1 (mtn σ) k))), (m_av_r (mf_widest_it16 σ s t k).1 (mtn σ) k))))
theorem fr_mf_widest_it16 {σ : pr_I} {s : Nat} {t : Nat} {o : Nat} (hms : ∀ m ∈ ([0, 8, 9, 10] : List Nat), o ≠ m) : ∀ {k : Nat}, (mf_widest_it16 σ s t k).1 o = (pr_up σ 0 6 (0 : Int32)) o := by
  simp only [List.mem_cons, List.not_mem_nil, or_false, forall_eq_or_imp, forall_eq] at hms
  intro k
  induction k with
  | zero =>
    show (pr_up σ 0 6 (0 : Int32)) o = (pr_up σ 0 6 (0 : Int32)) o
    rfl
  | succ k ih =>
    by_cases c_39 : (m_av_r (mf_widest_it16 σ s t k).1 (mtn σ) k) ≤ ((mf_widest_it16 σ s t k).2)
    · refine (congrFun (congrArg (fun z : pr_I × Int32 => z.1) (if_pos c_39)) o).trans ?_
      show (mf_widest_it16 σ s t k).1 o = (pr_up σ 0 6 (0 : Int32)) o
      rw [ih]
    · refine (congrFun (congrArg (fun z : pr_I × Int32 => z.1) (if_neg c_39)) o).trans ?_
      by_cases c_54 : (m_fi_r (mf_widest_it16 σ s t k).1 (nI s) (nI t) (m_lw_r (mf_widest_it16 σ s t k).1 (mtn σ) (mln σ) (m_av_r (mf_widest_it16 σ s t k).1 (mtn σ) k))) = 0
      · refine (congrFun (congrArg (fun z : pr_I × Int32 => z.1) (if_pos c_54)) o).trans ?_
        show (m_fi (mf_widest_it16 σ s t k).1 (nI s) (nI t) (m_lw_r (mf_widest_it16 σ s t k).1 (mtn σ) (mln σ) (m_av_r (mf_widest_it16 σ s t k).1 (mtn σ) k))) o = (pr_up σ 0 6 (0 : Int32)) o
        rw [fr_m_fi (by simp only [List.mem_cons, List.not_mem_nil, or_false, forall_eq_or_imp, forall_eq]; omega), ih]
      · refine (congrFun (congrArg (fun z : pr_I × Int32 => z.1) (if_neg c_54)) o).trans ?_
        show (m_fi (mf_widest_it16 σ s t k).1 (nI s) (nI t) (m_lw_r (mf_widest_it16 σ s t k).1 (mtn σ) (mln σ) (m_av_r (mf_widest_it16 σ s t k).1 (mtn σ) k))) o = (pr_up σ 0 6 (0 : Int32)) o
        rw [fr_m_fi (by simp only [List.mem_cons, List.not_mem_nil, or_false, forall_eq_or_imp, forall_eq]; omega), ih]

noncomputable def mf_widest_r (σ : pr_I) (s : Nat) (t : Nat) : Int32 := ((mf_widest_it16 σ s t (mln σ)).2)
noncomputable def mf_widest (σ : pr_I) (s : Nat) (t : Nat) : pr_I := (mf_widest_it16 σ s t (mln σ)).1
theorem mI_mf_widest_it16 {σ : pr_I} {s t : Nat} (hI : mI σ) (hs0 : vp_in (nI s) 12) : ∀ i, mI (mf_widest_it16 σ s t i).1
  | 0 => mI.upn hI rfl
  | i + 1 => by
    have ih := mI_mf_widest_it16 (t := t) hI hs0 i
    unfold mf_widest_it16
    exact p_ite (P := fun z : pr_I × Int32 => mI z.1) ih (p_ite (P := fun z : pr_I × Int32 => mI z.1) (mI_m_fi ih hs0) (mI_m_fi ih hs0))
theorem fr_mf_widest {σ : pr_I} {s : Nat} {t : Nat} {o : Nat} (hms : ∀ m ∈ ([0, 8, 9, 10] : List Nat), o ≠ m) : mf_widest σ s t o = σ o := by
  unfold mf_widest
  simp only [List.mem_cons, List.not_mem_nil, or_false, forall_eq_or_imp, forall_eq] at hms
  rw [fr_mf_widest_it16 (by simp only [List.mem_cons, List.not_mem_nil, or_false, forall_eq_or_imp, forall_eq]; omega), pr_up_ne (by omega)]

noncomputable def mf_reachable_it82 (σ σ1 : pr_I) (s : Nat) (u : Int32) (k : Nat) (x4 : Int32) : Nat → Int32
  | 0 => x4
  | k1 + 1 => ((mf_reachable_it82 σ σ1 s u k x4 k1) ||| (if (m_has_r σ1 (m_lw_r (pr_up σ 0 6 (0 : Int32)) (mtn σ) (mln σ) u) (nI k1)) = 0 then (0 : Int32) else (if (m_has_r σ1 (mf_reachable_it82 σ σ1 s u k x4 k1) (σ 1 (96 + 7 * k1 + 0))) = 0 then (0 : Int32) else ((1 : Int32) <<< ((σ 1 (96 + 7 * k1 + 1)) &&& 31)))))
noncomputable def mf_reachable_it67 (σ : pr_I) (s : Nat) (u : Int32) : Nat → Int32
  | 0 => ((1 : Int32) <<< ((nI s) &&& 31))
  | k + 1 => (mf_reachable_it82 σ (pr_up σ 0 6 (0 : Int32)) s u k (mf_reachable_it67 σ s u k) (mln σ))
noncomputable def mf_reachable_r (σ : pr_I) (s : Nat) (u : Int32) : Int32 := (mf_reachable_it67 σ s u (mnn σ))
noncomputable def mf_reachable (σ : pr_I) (s : Nat) (u : Int32) : pr_I := (pr_up σ 0 6 (0 : Int32))
theorem fr_mf_reachable {σ : pr_I} {s : Nat} {u : Int32} {o : Nat} (hms : ∀ m ∈ ([0] : List Nat), o ≠ m) : mf_reachable σ s u o = σ o := by
  unfold mf_reachable
  simp only [List.mem_cons, List.not_mem_nil, or_false, forall_eq_or_imp, forall_eq] at hms
  rw [pr_up_ne (by omega)]

noncomputable def mf_criticalLinks_it38 (σ : pr_I) (s : Nat) (t : Nat) (u : Int32) : Nat → pr_I × Int32
  | 0 => ((m_fi (pr_up σ 0 6 (0 : Int32)) (nI s) (nI t) (m_lw_r (pr_up σ 0 6 (0 : Int32)) (mtn σ) (mln σ) u)), (0 : Int32))
  | k + 1 => (if (m_has_r (mf_criticalLinks_it38 σ s t u k).1 (m_lw_r (pr_up σ 0 6 (0 : Int32)) (mtn σ) (mln σ) u) (nI k)) = 0 then ((mf_criticalLinks_it38 σ s t u k).1, (((mf_criticalLinks_it38 σ s t u k).2) ||| (0 : Int32))) else ((m_fi (mf_criticalLinks_it38 σ s t u k).1 (nI s) (nI t) ((m_lw_r (pr_up σ 0 6 (0 : Int32)) (mtn σ) (mln σ) u) &&& (((1 : Int32) <<< ((nI k) &&& 31)) ^^^ ((-1) : Int32)))), (((mf_criticalLinks_it38 σ s t u k).2) ||| (if (m_fi_r (mf_criticalLinks_it38 σ s t u k).1 (nI s) (nI t) ((m_lw_r (pr_up σ 0 6 (0 : Int32)) (mtn σ) (mln σ) u) &&& (((1 : Int32) <<< ((nI k) &&& 31)) ^^^ ((-1) : Int32)))) = 0 then ((1 : Int32) <<< ((nI k) &&& 31)) else (0 : Int32)))))
theorem fr_mf_criticalLinks_it38 {σ : pr_I} {s : Nat} {t : Nat} {u : Int32} {o : Nat} (hms : ∀ m ∈ ([0, 8, 9, 10] : List Nat), o ≠ m) : ∀ {k : Nat}, (mf_criticalLinks_it38 σ s t u k).1 o = (m_fi (pr_up σ 0 6 (0 : Int32)) (nI s) (nI t) (m_lw_r (pr_up σ 0 6 (0 : Int32)) (mtn σ) (mln σ) u)) o := by
  simp only [List.mem_cons, List.not_mem_nil, or_false, forall_eq_or_imp, forall_eq] at hms
  intro k
  induction k with
  | zero =>
    show (m_fi (pr_up σ 0 6 (0 : Int32)) (nI s) (nI t) (m_lw_r (pr_up σ 0 6 (0 : Int32)) (mtn σ) (mln σ) u)) o = (m_fi (pr_up σ 0 6 (0 : Int32)) (nI s) (nI t) (m_lw_r (pr_up σ 0 6 (0 : Int32)) (mtn σ) (mln σ) u)) o
    rfl
  | succ k ih =>
    by_cases c_59 : (m_has_r (mf_criticalLinks_it38 σ s t u k).1 (m_lw_r (pr_up σ 0 6 (0 : Int32)) (mtn σ) (mln σ) u) (nI k)) = 0
    · refine (congrFun (congrArg (fun z : pr_I × Int32 => z.1) (if_pos c_59)) o).trans ?_
      show (mf_criticalLinks_it38 σ s t u k).1 o = (m_fi (pr_up σ 0 6 (0 : Int32)) (nI s) (nI t) (m_lw_r (pr_up σ 0 6 (0 : Int32)) (mtn σ) (mln σ) u)) o
      rw [ih]
    · refine (congrFun (congrArg (fun z : pr_I × Int32 => z.1) (if_neg c_59)) o).trans ?_
      show (m_fi (mf_criticalLinks_it38 σ s t u k).1 (nI s) (nI t) ((m_lw_r (pr_up σ 0 6 (0 : Int32)) (mtn σ) (mln σ) u) &&& (((1 : Int32) <<< ((nI k) &&& 31)) ^^^ ((-1) : Int32)))) o = (m_fi (pr_up σ 0 6 (0 : Int32)) (nI s) (nI t) (m_lw_r (pr_up σ 0 6 (0 : Int32)) (mtn σ) (mln σ) u)) o
      rw [fr_m_fi (by simp only [List.mem_cons, List.not_mem_nil, or_false, forall_eq_or_imp, forall_eq]; omega), ih]

noncomputable def mf_criticalLinks_r (σ : pr_I) (s : Nat) (t : Nat) (u : Int32) : Int32 := (if (m_fi_r (pr_up σ 0 6 (0 : Int32)) (nI s) (nI t) (m_lw_r (pr_up σ 0 6 (0 : Int32)) (mtn σ) (mln σ) u)) = 0 then (0 : Int32) else ((mf_criticalLinks_it38 σ s t u (mln σ)).2))
noncomputable def mf_criticalLinks (σ : pr_I) (s : Nat) (t : Nat) (u : Int32) : pr_I := (if (m_fi_r (pr_up σ 0 6 (0 : Int32)) (nI s) (nI t) (m_lw_r (pr_up σ 0 6 (0 : Int32)) (mtn σ) (mln σ) u)) = 0 then (m_fi (pr_up σ 0 6 (0 : Int32)) (nI s) (nI t) (m_lw_r (pr_up σ 0 6 (0 : Int32)) (mtn σ) (mln σ) u)) else (mf_criticalLinks_it38 σ s t u (mln σ)).1)
theorem mI_mf_criticalLinks_it38 {σ : pr_I} {s t : Nat} {u : Int32} (hI : mI σ) (hs0 : vp_in (nI s) 12) : ∀ i, mI (mf_criticalLinks_it38 σ s t u i).1
  | 0 => mI_m_fi (mI.upn hI rfl) hs0
  | i + 1 => by
    have ih := mI_mf_criticalLinks_it38 (t := t) (u := u) hI hs0 i
    unfold mf_criticalLinks_it38
    exact p_ite (P := fun z : pr_I × Int32 => mI z.1) ih (mI_m_fi ih hs0)
theorem fr_mf_criticalLinks {σ : pr_I} {s : Nat} {t : Nat} {u : Int32} {o : Nat} (hms : ∀ m ∈ ([0, 8, 9, 10] : List Nat), o ≠ m) : mf_criticalLinks σ s t u o = σ o := by
  unfold mf_criticalLinks
  simp only [List.mem_cons, List.not_mem_nil, or_false, forall_eq_or_imp, forall_eq] at hms
  by_cases c_27 : (m_fi_r (pr_up σ 0 6 (0 : Int32)) (nI s) (nI t) (m_lw_r (pr_up σ 0 6 (0 : Int32)) (mtn σ) (mln σ) u)) = 0
  · refine (congrFun (if_pos c_27) o).trans ?_
    rw [fr_m_fi (by simp only [List.mem_cons, List.not_mem_nil, or_false, forall_eq_or_imp, forall_eq]; omega), pr_up_ne (by omega)]
  · refine (congrFun (if_neg c_27) o).trans ?_
    rw [fr_mf_criticalLinks_it38 (by simp only [List.mem_cons, List.not_mem_nil, or_false, forall_eq_or_imp, forall_eq]; omega), fr_m_fi (by simp only [List.mem_cons, List.not_mem_nil, or_false, forall_eq_or_imp, forall_eq]; omega), pr_up_ne (by omega)]

