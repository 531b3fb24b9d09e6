theorem mI_m_dn {σ : pr_I} {lk : Nat} (hI : mI σ) (hk : lk < 24) : mI (m_dn σ lk) := mI_m_dn_it19 hI hk _ (mI_nr4 hI)
noncomputable def mf_ticksUntilActive_r (σ : pr_I) (k : Nat) : Int32 := (m_ua_r (pr_row (pr_up σ 0 6 (0 : Int32)) 2 (cp_row (σ 1) (σ 2) 5384)) k)
noncomputable def mf_ticksUntilActive (σ : pr_I) (k : Nat) : pr_I := (pr_row (m_ua (pr_row (pr_up σ 0 6 (0 : Int32)) 2 (cp_row (σ 1) (σ 2) 5384)) k) 1 (cp_row (cp_row (σ 1) (σ 2) 5384) ((m_ua (pr_row (pr_up σ 0 6 (0 : Int32)) 2 (cp_row (σ 1) (σ 2) 5384)) k) 1) 5384))
theorem fr_mf_ticksUntilActive {σ : pr_I} {k : Nat} {o : Nat} (hms : ∀ m ∈ ([0, 1, 2, 8, 9, 10] : List Nat), o ≠ m) : mf_ticksUntilActive σ k o = σ o := by
  unfold mf_ticksUntilActive
  simp only [List.mem_cons, List.not_mem_nil, or_false, forall_eq_or_imp, forall_eq] at hms
  rw [pr_row_ne (by omega), fr_m_ua (by simp only [List.mem_cons, List.not_mem_nil, or_false, forall_eq_or_imp, forall_eq]; omega), pr_row_ne (by omega), pr_up_ne (by omega)]

noncomputable def mf_revenueAfter_r (σ : pr_I) (z : Int32) : Int64 := ((m_sum_r (m_gn (pr_row (pr_up σ 0 6 (0 : Int32)) 2 (cp_row (σ 1) (σ 2) 5384)) z) 7) - (m_sum_r (m_gn (pr_row (pr_up σ 0 6 (0 : Int32)) 2 (cp_row (σ 1) (σ 2) 5384)) z) 8))
noncomputable def mf_revenueAfter (σ : pr_I) (z : Int32) : pr_I := (pr_row (m_gn (pr_row (pr_up σ 0 6 (0 : Int32)) 2 (cp_row (σ 1) (σ 2) 5384)) z) 1 (cp_row (cp_row (σ 1) (σ 2) 5384) ((m_gn (pr_row (pr_up σ 0 6 (0 : Int32)) 2 (cp_row (σ 1) (σ 2) 5384)) z) 1) 5384))
theorem fr_mf_revenueAfter {σ : pr_I} {z : Int32} {o : Nat} (hms : ∀ m ∈ ([0, 1, 2, 8, 9, 10] : List Nat), o ≠ m) : mf_revenueAfter σ z o = σ o := by
  unfold mf_revenueAfter
  simp only [List.mem_cons, List.not_mem_nil, or_false, forall_eq_or_imp, forall_eq] at hms
  rw [pr_row_ne (by omega), fr_m_gn (by simp only [List.mem_cons, List.not_mem_nil, or_false, forall_eq_or_imp, forall_eq]; omega), pr_row_ne (by omega), pr_up_ne (by omega)]

noncomputable def mf_availableAfter_r (σ : pr_I) (k : Nat) (z : Int32) : Int32 := (m_av_r (m_gn (pr_row (pr_up σ 0 6 (0 : Int32)) 2 (cp_row (σ 1) (σ 2) 5384)) z) (mtn (m_gn (pr_row (pr_up σ 0 6 (0 : Int32)) 2 (cp_row (σ 1) (σ 2) 5384)) z)) k)
noncomputable def mf_availableAfter (σ : pr_I) (k : Nat) (z : Int32) : pr_I := (pr_row (m_gn (pr_row (pr_up σ 0 6 (0 : Int32)) 2 (cp_row (σ 1) (σ 2) 5384)) z) 1 (cp_row (cp_row (σ 1) (σ 2) 5384) ((m_gn (pr_row (pr_up σ 0 6 (0 : Int32)) 2 (cp_row (σ 1) (σ 2) 5384)) z) 1) 5384))
theorem fr_mf_availableAfter {σ : pr_I} {k : Nat} {z : Int32} {o : Nat} (hms : ∀ m ∈ ([0, 1, 2, 8, 9, 10] : List Nat), o ≠ m) : mf_availableAfter σ k z o = σ o := by
  unfold mf_availableAfter
  simp only [List.mem_cons, List.not_mem_nil, or_false, forall_eq_or_imp, forall_eq] at hms
  rw [pr_row_ne (by omega), fr_m_gn (by simp only [List.mem_cons, List.not_mem_nil, or_false, forall_eq_or_imp, forall_eq]; omega), pr_row_ne (by omega), pr_up_ne (by omega)]

noncomputable def mf_stateAfter_r (σ : pr_I) (k : Nat) (z : Int32) : Int32 := ((m_gn (pr_row (pr_up σ 0 6 (0 : Int32)) 2 (cp_row (σ 1) (σ 2) 5384)) z) 1 (264 + 28 * k + 4))
noncomputable def mf_stateAfter (σ : pr_I) (k : Nat) (z : Int32) : pr_I := (pr_row (m_gn (pr_row (pr_up σ 0 6 (0 : Int32)) 2 (cp_row (σ 1) (σ 2) 5384)) z) 1 (cp_row (cp_row (σ 1) (σ 2) 5384) ((m_gn (pr_row (pr_up σ 0 6 (0 : Int32)) 2 (cp_row (σ 1) (σ 2) 5384)) z) 1) 5384))
theorem fr_mf_stateAfter {σ : pr_I} {k : Nat} {z : Int32} {o : Nat} (hms : ∀ m ∈ ([0, 1, 2, 8, 9, 10] : List Nat), o ≠ m) : mf_stateAfter σ k z o = σ o := by
  unfold mf_stateAfter
  simp only [List.mem_cons, List.not_mem_nil, or_false, forall_eq_or_imp, forall_eq] at hms
  rw [pr_row_ne (by omega), fr_m_gn (by simp only [List.mem_cons, List.not_mem_nil, or_false, forall_eq_or_imp, forall_eq]; omega), pr_row_ne (by omega), pr_up_ne (by omega)]

noncomputable def mf_activeWithout_r (σ : pr_I) (k : Nat) (z : Int32) : Int32 := (if (σ 1 (96 + 7 * k + 5)) = (1 : Int32) then (m_many_r (m_gn (m_dn (pr_row (pr_up σ 0 6 (0 : Int32)) 2 (cp_row (σ 1) (σ 2) 5384)) k) z) (2 : Int32)) else (m_many_r (m_gn (pr_row (pr_up σ 0 6 (0 : Int32)) 2 (cp_row (σ 1) (σ 2) 5384)) z) (2 : Int32)))
noncomputable def mf_activeWithout (σ : pr_I) (k : Nat) (z : Int32) : pr_I := (if (σ 1 (96 + 7 * k + 5)) = (1 : Int32) then (pr_row (m_gn (m_dn (pr_row (pr_up σ 0 6 (0 : Int32)) 2 (cp_row (σ 1) (σ 2) 5384)) k) z) 1 (cp_row (cp_row (σ 1) (σ 2) 5384) ((m_gn (m_dn (pr_row (pr_up σ 0 6 (0 : Int32)) 2 (cp_row (σ 1) (σ 2) 5384)) k) z) 1) 5384)) else (pr_row (m_gn (pr_row (pr_up σ 0 6 (0 : Int32)) 2 (cp_row (σ 1) (σ 2) 5384)) z) 1 (cp_row (cp_row (σ 1) (σ 2) 5384) ((m_gn (pr_row (pr_up σ 0 6 (0 : Int32)) 2 (cp_row (σ 1) (σ 2) 5384)) z) 1) 5384)))
theorem fr_mf_activeWithout {σ : pr_I} {k : Nat} {z : Int32} {o : Nat} (hms : ∀ m ∈ ([0, 1, 2, 8, 9, 10] : List Nat), o ≠ m) : mf_activeWithout σ k z o = σ o := by
  unfold mf_activeWithout
  simp only [List.mem_cons, List.not_mem_nil, or_false, forall_eq_or_imp, forall_eq] at hms
  by_cases c_37 : (σ 1 (96 + 7 * k + 5)) = (1 : Int32)
  · refine (congrFun (if_pos c_37) o).trans ?_
    rw [pr_row_ne (by omega), fr_m_gn (by simp only [List.mem_cons, List.not_mem_nil, or_false, forall_eq_or_imp, forall_eq]; omega), fr_m_dn (by simp only [List.mem_cons, List.not_mem_nil, or_false, forall_eq_or_imp, forall_eq]; omega), pr_row_ne (by omega), pr_up_ne (by omega)]
  · refine (congrFun (if_neg c_37) o).trans ?_
    rw [pr_row_ne (by omega), fr_m_gn (by simp only [List.mem_cons, List.not_mem_nil, or_false, forall_eq_or_imp, forall_eq]; omega), pr_row_ne (by omega), pr_up_ne (by omega)]

noncomputable def mf_ticksForNew_r (σ : pr_I) (s : Nat) (t : Nat) (u : Int32) : Int32 := (if (nI (mrn σ)) = (nI 40) then ((-2) : Int32) else (m_fn_r (pr_up σ 0 6 (0 : Int32)) (nI s) (nI t) u))
noncomputable def mf_ticksForNew (σ : pr_I) (s : Nat) (t : Nat) (u : Int32) : pr_I := (if (nI (mrn σ)) = (nI 40) then (pr_up σ 0 6 (0 : Int32)) else (m_fn (pr_up σ 0 6 (0 : Int32)) (nI s) (nI t) u))
theorem fr_mf_ticksForNew {σ : pr_I} {s : Nat} {t : Nat} {u : Int32} {o : Nat} (hms : ∀ m ∈ ([0, 1, 2, 8, 9, 10] : List Nat), o ≠ m) : mf_ticksForNew σ s t u o = σ o := by
  unfold mf_ticksForNew
  simp only [List.mem_cons, List.not_mem_nil, or_false, forall_eq_or_imp, forall_eq] at hms
  by_cases c_45 : (nI (mrn σ)) = (nI 40)
  · refine (congrFun (if_pos c_45) o).trans ?_
    rw [pr_up_ne (by omega)]
  · refine (congrFun (if_neg c_45) o).trans ?_
    rw [fr_m_fn (by simp only [List.mem_cons, List.not_mem_nil, or_false, forall_eq_or_imp, forall_eq]; omega), pr_up_ne (by omega)]

noncomputable def mf_greatestNew_fl30 (σ : pr_I) (s : Nat) (t : Nat) : Nat → pr_I → Int32 → pr_I × Int32
  | 0, σ1, _ => (σ1, 0)
  | j + 1, σ1, x3 => (if x3 ≤ 0 then (σ1, ((-1) : Int32)) else (if (m_fn_r σ1 (nI s) (nI t) x3) = ((-1) : Int32) then (mf_greatestNew_fl30 σ s t j (m_fn σ1 (nI s) (nI t) x3) (x3 / (2 : Int32))) else ((m_fn σ1 (nI s) (nI t) x3), x3)))
def mf_greatestNew_ok30 (σ : pr_I) (s : Nat) (t : Nat) : Nat → pr_I → Int32 → Prop
  | 0, _, _ => False
  | j + 1, σ1, x3 => (if x3 ≤ 0 then True else (((mrn σ1 < 40 ∧ m_fn_ok σ1 (nI s) (nI t) x3)) ∧ (if (m_fn_r σ1 (nI s) (nI t) x3) = ((-1) : Int32) then (mf_greatestNew_ok30 σ s t j (m_fn σ1 (nI s) (nI t) x3) (x3 / (2 : Int32))) else True)))
theorem fr_mf_greatestNew_fl30 {σ : pr_I} {s : Nat} {t : Nat} {o : Nat} (hms : ∀ m ∈ ([0, 1, 2, 8, 9, 10] : List Nat), o ≠ m) : ∀ {j : Nat} {σ1 : pr_I} {x3 : Int32}, (mf_greatestNew_fl30 σ s t j σ1 x3).1 o = σ1 o := by
  simp only [List.mem_cons, List.not_mem_nil, or_false, forall_eq_or_imp, forall_eq] at hms
  intro j
  induction j with
  | zero => intro _ _; rfl
  | succ j ih =>
    intro σ1 x3
    show ((if x3 ≤ 0 then (σ1, ((-1) : Int32)) else (if (m_fn_r σ1 (nI s) (nI t) x3) = ((-1) : Int32) then (mf_greatestNew_fl30 σ s t j (m_fn σ1 (nI s) (nI t) x3) (x3 / (2 : Int32))) else ((m_fn σ1 (nI s) (nI t) x3), x3)))).1 o = σ1 o
    by_cases c_31 : x3 ≤ 0
    · refine (congrFun (congrArg (fun z : pr_I × Int32 => z.1) (if_pos c_31)) o).trans ?_
      show σ1 o = σ1 o
      rfl
    · refine (congrFun (congrArg (fun z : pr_I × Int32 => z.1) (if_neg c_31)) o).trans ?_
      by_cases c_42 : (m_fn_r σ1 (nI s) (nI t) x3) = ((-1) : Int32)
      · refine (congrFun (congrArg (fun z : pr_I × Int32 => z.1) (if_pos c_42)) o).trans ?_
        rw [ih, fr_m_fn (by simp only [List.mem_cons, List.not_mem_nil, or_false, forall_eq_or_imp, forall_eq]; omega)]
      · refine (congrFun (congrArg (fun z : pr_I × Int32 => z.1) (if_neg c_42)) o).trans ?_
        show (m_fn σ1 (nI s) (nI t) x3) o = σ1 o
        rw [fr_m_fn (by simp only [List.mem_cons, List.not_mem_nil, or_false, forall_eq_or_imp, forall_eq]; omega)]

noncomputable def mf_greatestNew_r (σ : pr_I) (s : Nat) (t : Nat) : Int32 := (if (nI (mrn σ)) = (nI 40) then ((-2) : Int32) else ((mf_greatestNew_fl30 σ s t (sl 11) (pr_up σ 0 6 (0 : Int32)) (512 : Int32)).2))
noncomputable def mf_greatestNew (σ : pr_I) (s : Nat) (t : Nat) : pr_I := (if (nI (mrn σ)) = (nI 40) then (pr_up σ 0 6 (0 : Int32)) else (mf_greatestNew_fl30 σ s t (sl 11) (pr_up σ 0 6 (0 : Int32)) (512 : Int32)).1)
theorem fr_mf_greatestNew {σ : pr_I} {s : Nat} {t : Nat} {o : Nat} (hms : ∀ m ∈ ([0, 1, 2, 8, 9, 10] : List Nat), o ≠ m) : mf_greatestNew σ s t o = σ o := by
  unfold mf_greatestNew
  simp only [List.mem_cons, List.not_mem_nil, or_false, forall_eq_or_imp, forall_eq] at hms
  by_cases c_20 : (nI (mrn σ)) = (nI 40)
  · refine (congrFun (if_pos c_20) o).trans ?_
    rw [pr_up_ne (by omega)]
  · refine (congrFun (if_neg c_20) o).trans ?_
    rw [fr_mf_greatestNew_fl30 (by simp only [List.mem_cons, List.not_mem_nil, or_false, forall_eq_or_imp, forall_eq]; omega), pr_up_ne (by omega)]

noncomputable def mf_ticksUntilAvailable_fl48 (σ : pr_I) (k : Nat) (u : Int32) : Nat → pr_I → Int32 → pr_I × Int32
  | 0, σ1, _ => (σ1, 0)
  | j + 1, σ1, x3 => (if u ≤ (m_av_r σ1 (mtn σ1) k) then ((pr_row σ1 1 (cp_row (cp_row (σ 1) (σ 2) 5384) (σ1 1) 5384)), (if x3 ≤ (2000 : Int32) then x3 else ((-1) : Int32))) else (if (2000 : Int32) < x3 then ((pr_row σ1 1 (cp_row (cp_row (σ 1) (σ 2) 5384) (σ1 1) 5384)), (if x3 ≤ (2000 : Int32) then x3 else ((-1) : Int32))) else (mf_ticksUntilAvailable_fl48 σ k u j (m_ts (m_po σ1 ((2000 : Int32) - x3))) ((x3 + (m_po_r σ1 ((2000 : Int32) - x3))) + Int32.ofInt (1)))))
def mf_ticksUntilAvailable_ok48 (σ : pr_I) (k : Nat) (u : Int32) : Nat → pr_I → Int32 → Prop
  | 0, _, _ => False
  | j + 1, σ1, x3 => (if u ≤ (m_av_r σ1 (mtn σ1) k) then True else (if (2000 : Int32) < x3 then True else ((m_ts_ok (m_po σ1 ((2000 : Int32) - x3))) ∧ (mf_ticksUntilAvailable_ok48 σ k u j (m_ts (m_po σ1 ((2000 : Int32) - x3))) ((x3 + (m_po_r σ1 ((2000 : Int32) - x3))) + Int32.ofInt (1))))))
theorem fr_mf_ticksUntilAvailable_fl48 {σ : pr_I} {k : Nat} {u : Int32} {o : Nat} (hms : ∀ m ∈ ([0, 1, 8, 9, 10] : List Nat), o ≠ m) : ∀ {j : Nat} {σ1 : pr_I} {x3 : Int32}, (mf_ticksUntilAvailable_fl48 σ k u j σ1 x3).1 o = σ1 o := by
  simp only [List.mem_cons, List.not_mem_nil, or_false, forall_eq_or_imp, forall_eq] at hms
  intro j
  induction j with
  | zero => intro _ _; rfl
  | succ j ih =>
    intro σ1 x3
    show ((if u ≤ (m_av_r σ1 (mtn σ1) k) then ((pr_row σ1 1 (cp_row (cp_row (σ 1) (σ 2) 5384) (σ1 1) 5384)), (if x3 ≤ (2000 : Int32) then x3 else ((-1) : Int32))) else (if (2000 : Int32) < x3 then ((pr_row σ1 1 (cp_row (cp_row (σ 1) (σ 2) 5384) (σ1 1) 5384)), (if x3 ≤ (2000 : Int32) then x3 else ((-1) : Int32))) else (mf_ticksUntilAvailable_fl48 σ k u j (m_ts (m_po σ1 ((2000 : Int32) - x3))) ((x3 + (m_po_r σ1 ((2000 : Int32) - x3))) + Int32.ofInt (1)))))).1 o = σ1 o
    by_cases c_54 : u ≤ (m_av_r σ1 (mtn σ1) k)
    · refine (congrFun (congrArg (fun z : pr_I × Int32 => z.1) (if_pos c_54)) o).trans ?_
      show (pr_row σ1 1 (cp_row (cp_row (σ 1) (σ 2) 5384) (σ1 1) 5384)) o = σ1 o
      rw [pr_row_ne (by omega)]
    · refine (congrFun (congrArg (fun z : pr_I × Int32 => z.1) (if_neg c_54)) o).trans ?_
      by_cases c_61 : (2000 : Int32) < x3
      · refine (congrFun (congrArg (fun z : pr_I × Int32 => z.1) (if_pos c_61)) o).trans ?_
        show (pr_row σ1 1 (cp_row (cp_row (σ 1) (σ 2) 5384) (σ1 1) 5384)) o = σ1 o
        rw [pr_row_ne (by omega)]
      · refine (congrFun (congrArg (fun z : pr_I × Int32 => z.1) (if_neg c_61)) o).trans ?_
        rw [ih, fr_m_ts (by simp only [List.mem_cons, List.not_mem_nil, or_false, forall_eq_or_imp, forall_eq]; omega), fr_m_po (by simp only [List.mem_cons, List.not_mem_nil, or_false, forall_eq_or_imp, forall_eq]; omega)]

noncomputable def mf_ticksUntilAvailable_r (σ : pr_I) (k : Nat) (u : Int32) : Int32 := ((mf_ticksUntilAvailable_fl48 σ k u (sl 2002) (pr_row (pr_up σ 0 6 (0 : Int32)) 2 (cp_row (σ 1) (σ 2) 5384)) (0 : Int32)).2)
noncomputable def mf_ticksUntilAvailable (σ : pr_I) (k : Nat) (u : Int32) : pr_I := (mf_ticksUntilAvailable_fl48 σ k u (sl 2002) (pr_row (pr_up σ 0 6 (0 : Int32)) 2 (cp_row (σ 1) (σ 2) 5384)) (0 : Int32)).1
theorem fr_mf_ticksUntilAvailable {σ : pr_I} {k : Nat} {u : Int32} {o : Nat} (hms : ∀ m ∈ ([0, 1, 2, 8, 9, 10] : List Nat), o ≠ m) : mf_ticksUntilAvailable σ k u o = σ o := by
  unfold mf_ticksUntilAvailable
  simp only [List.mem_cons, List.not_mem_nil, or_false, forall_eq_or_imp, forall_eq] at hms
  rw [fr_mf_ticksUntilAvailable_fl48 (by simp only [List.mem_cons, List.not_mem_nil, or_false, forall_eq_or_imp, forall_eq]; omega), pr_row_ne (by omega), pr_up_ne (by omega)]

noncomputable def mf_ticksUntilQuiet_fl28 (σ : pr_I) : Nat → pr_I → Int32 → pr_I × Int32
  | 0, σ1, _ => (σ1, 0)
  | j + 1, σ1, x2 => (if x2 = ((-1) : Int32) then ((pr_row σ1 1 (cp_row (cp_row (σ 1) (σ 2) 5384) (σ1 1) 5384)), (if x2 = ((-1) : Int32) then ((σ1 1 0) - (σ 1 0)) else ((-1) : Int32))) else (if (20000 : Int32) < (x2 - (σ 1 0)) then ((pr_row σ1 1 (cp_row (cp_row (σ 1) (σ 2) 5384) (σ1 1) 5384)), (if x2 = ((-1) : Int32) then ((σ1 1 0) - (σ 1 0)) else ((-1) : Int32))) else (mf_ticksUntilQuiet_fl28 σ j (m_ts (pr_up σ1 1 0 (x2 - (1 : Int32)))) (m_ne_r (m_ts (pr_up σ1 1 0 (x2 - (1 : Int32))))))))
def mf_ticksUntilQuiet_ok28 (σ : pr_I) : Nat → pr_I → Int32 → Prop
  | 0, _, _ => False
  | j + 1, σ1, x2 => (if x2 = ((-1) : Int32) then True else (if (20000 : Int32) < (x2 - (σ 1 0)) then True else ((m_ts_ok (pr_up σ1 1 0 (x2 - (1 : Int32)))) ∧ (mf_ticksUntilQuiet_ok28 σ j (m_ts (pr_up σ1 1 0 (x2 - (1 : Int32)))) (m_ne_r (m_ts (pr_up σ1 1 0 (x2 - (1 : Int32)))))))))
theorem fr_mf_ticksUntilQuiet_fl28 {σ : pr_I} {o : Nat} (hms : ∀ m ∈ ([0, 1, 8, 9, 10] : List Nat), o ≠ m) : ∀ {j : Nat} {σ1 : pr_I} {x2 : Int32}, (mf_ticksUntilQuiet_fl28 σ j σ1 x2).1 o = σ1 o := by
  simp only [List.mem_cons, List.not_mem_nil, or_false, forall_eq_or_imp, forall_eq] at hms
  intro j
  induction j with
  | zero => intro _ _; rfl
  | succ j ih =>
    intro σ1 x2
    show ((if x2 = ((-1) : Int32) then ((pr_row σ1 1 (cp_row (cp_row (σ 1) (σ 2) 5384) (σ1 1) 5384)), (if x2 = ((-1) : Int32) then ((σ1 1 0) - (σ 1 0)) else ((-1) : Int32))) else (if (20000 : Int32) < (x2 - (σ 1 0)) then ((pr_row σ1 1 (cp_row (cp_row (σ 1) (σ 2) 5384) (σ1 1) 5384)), (if x2 = ((-1) : Int32) then ((σ1 1 0) - (σ 1 0)) else ((-1) : Int32))) else (mf_ticksUntilQuiet_fl28 σ j (m_ts (pr_up σ1 1 0 (x2 - (1 : Int32)))) (m_ne_r (m_ts (pr_up σ1 1 0 (x2 - (1 : Int32))))))))).1 o = σ1 o
    by_cases c_30 : x2 = ((-1) : Int32)
    · refine (congrFun (congrArg (fun z : pr_I × Int32 => z.1) (if_pos c_30)) o).trans ?_
      show (pr_row σ1 1 (cp_row (cp_row (σ 1) (σ 2) 5384) (σ1 1) 5384)) o = σ1 o
      rw [pr_row_ne (by omega)]
    · refine (congrFun (congrArg (fun z : pr_I × Int32 => z.1) (if_neg c_30)) o).trans ?_
      by_cases c_39 : (20000 : Int32) < (x2 - (σ 1 0))
      · refine (congrFun (congrArg (fun z : pr_I × Int32 => z.1) (if_pos c_39)) o).trans ?_
        show (pr_row σ1 1 (cp_row (cp_row (σ 1) (σ 2) 5384) (σ1 1) 5384)) o = σ1 o
        rw [pr_row_ne (by omega)]
      · refine (congrFun (congrArg (fun z : pr_I × Int32 => z.1) (if_neg c_39)) o).trans ?_
        rw [ih, fr_m_ts (by simp only [List.mem_cons, List.not_mem_nil, or_false, forall_eq_or_imp, forall_eq]; omega), pr_up_ne (by omega)]

noncomputable def mf_ticksUntilQuiet_r (σ : pr_I) : Int32 := ((mf_ticksUntilQuiet_fl28 σ (sl 20001) (pr_row (pr_up σ 0 6 (0 : Int32)) 2 (cp_row (σ 1) (σ 2) 5384)) (m_ne_r (pr_row (pr_up σ 0 6 (0 : Int32)) 2 (cp_row (σ 1) (σ 2) 5384)))).2)
noncomputable def mf_ticksUntilQuiet (σ : pr_I) : pr_I := (mf_ticksUntilQuiet_fl28 σ (sl 20001) (pr_row (pr_up σ 0 6 (0 : Int32)) 2 (cp_row (σ 1) (σ 2) 5384)) (m_ne_r (pr_row (pr_up σ 0 6 (0 : Int32)) 2 (cp_row (σ 1) (σ 2) 5384)))).1
theorem fr_mf_ticksUntilQuiet {σ : pr_I}  {o : Nat} (hms : ∀ m ∈ ([0, 1, 2, 8, 9, 10] : List Nat), o ≠ m) : mf_ticksUntilQuiet σ o = σ o := by
  unfold mf_ticksUntilQuiet
  simp only [List.mem_cons, List.not_mem_nil, or_false, forall_eq_or_imp, forall_eq] at hms
  rw [fr_mf_ticksUntilQuiet_fl28 (by simp only [List.mem_cons, List.not_mem_nil, or_false, forall_eq_or_imp, forall_eq]; omega), pr_row_ne (by omega), pr_up_ne (by omega)]

noncomputable def mf_saveSnapshot0_r (σ : pr_I) : Int32 := (σ 1 0)
noncomputable def mf_saveSnapshot0 (σ : pr_I) : pr_I := (pr_up (pr_row (pr_up σ 0 6 (0 : Int32)) 4 (cp_row (σ 1) (σ 4) 5384)) 6 0 (1 : Int32))
theorem fr_mf_saveSnapshot0 {σ : pr_I}  {o : Nat} (hms : ∀ m ∈ ([0, 4, 6] : List Nat), o ≠ m) : mf_saveSnapshot0 σ o = σ o := by
  unfold mf_saveSnapshot0
  simp only [List.mem_cons, List.not_mem_nil, or_false, forall_eq_or_imp, forall_eq] at hms
  rw [pr_up_ne (by omega), pr_row_ne (by omega), pr_up_ne (by omega)]

noncomputable def mf_restoreSnapshot0_r (σ : pr_I) : Int32 := (if (σ 6 0) = 0 then ((-1) : Int32) else ((cp_row (σ 4) (σ 1) 5384) 0))
noncomputable def mf_restoreSnapshot0 (σ : pr_I) : pr_I := (if (σ 6 0) = 0 then (pr_up σ 0 6 (0 : Int32)) else (pr_row (pr_up σ 0 6 (0 : Int32)) 1 (cp_row (σ 4) (σ 1) 5384)))
theorem fr_mf_restoreSnapshot0 {σ : pr_I}  {o : Nat} (hms : ∀ m ∈ ([0, 1] : List Nat), o ≠ m) : mf_restoreSnapshot0 σ o = σ o := by
  unfold mf_restoreSnapshot0
  simp only [List.mem_cons, List.not_mem_nil, or_false, forall_eq_or_imp, forall_eq] at hms
  by_cases c_16 : (σ 6 0) = 0
  · refine (congrFun (if_pos c_16) o).trans ?_
    rw [pr_up_ne (by omega)]
  · refine (congrFun (if_neg c_16) o).trans ?_
    rw [pr_row_ne (by omega), pr_up_ne (by omega)]

noncomputable def mf_saveSnapshot1_r (σ : pr_I) : Int32 := (σ 1 0)
noncomputable def mf_saveSnapshot1 (σ : pr_I) : pr_I := (pr_up (pr_row (pr_up σ 0 6 (0 : Int32)) 5 (cp_row (σ 1) (σ 5) 5384)) 6 1 (1 : Int32))
theorem fr_mf_saveSnapshot1 {σ : pr_I}  {o : Nat} (hms : ∀ m ∈ ([0, 5, 6] : List Nat), o ≠ m) : mf_saveSnapshot1 σ o = σ o := by
  unfold mf_saveSnapshot1
  simp only [List.mem_cons, List.not_mem_nil, or_false, forall_eq_or_imp, forall_eq] at hms
  rw [pr_up_ne (by omega), pr_row_ne (by omega), pr_up_ne (by omega)]

noncomputable def mf_restoreSnapshot1_r (σ : pr_I) : Int32 := (if (σ 6 1) = 0 then ((-1) : Int32) else ((cp_row (σ 5) (σ 1) 5384) 0))
noncomputable def mf_restoreSnapshot1 (σ : pr_I) : pr_I := (if (σ 6 1) = 0 then (pr_up σ 0 6 (0 : Int32)) else (pr_row (pr_up σ 0 6 (0 : Int32)) 1 (cp_row (σ 5) (σ 1) 5384)))
theorem fr_mf_restoreSnapshot1 {σ : pr_I}  {o : Nat} (hms : ∀ m ∈ ([0, 1] : List Nat), o ≠ m) : mf_restoreSnapshot1 σ o = σ o := by
  unfold mf_restoreSnapshot1
  simp only [List.mem_cons, List.not_mem_nil, or_false, forall_eq_or_imp, forall_eq] at hms
  by_cases c_16 : (σ 6 1) = 0
  · refine (congrFun (if_pos c_16) o).trans ?_
    rw [pr_up_ne (by omega)]
  · refine (congrFun (if_neg c_16) o).trans ?_
    rw [pr_row_ne (by omega), pr_up_ne (by omega)]

