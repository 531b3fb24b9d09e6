noncomputable def m_gn_fl2 (σ : pr_I) (z : Int32) : Nat → pr_I → Int32 → pr_I
  | 0, σ1, _ => σ1
  | j + 1, σ1, x2 => (if z ≤ x2 then σ1 else (if (x2 + (m_po_r σ1 (z - x2))) = z then (m_po σ1 (z - x2)) else (m_gn_fl2 σ z j (m_ts (m_po σ1 (z - x2))) ((x2 + (m_po_r σ1 (z - x2))) + Int32.ofInt (1)))))
def m_gn_ok2 (σ : pr_I) (z : Int32) : Nat → pr_I → Int32 → Prop
  | 0, _, _ => False
  | j + 1, σ1, x2 => (if z ≤ x2 then True else (if (x2 + (m_po_r σ1 (z - x2))) = z then True else ((m_ts_ok (m_po σ1 (z - x2))) ∧ (m_gn_ok2 σ z j (m_ts (m_po σ1 (z - x2))) ((x2 + (m_po_r σ1 (z - x2))) + Int32.ofInt (1))))))
theorem fr_m_gn_fl2 {σ : pr_I} {z : Int32} {o : Nat} (hms : ∀ m ∈ ([0, 1, 8, 9, 10] : List Nat), o ≠ m) : ∀ {j : Nat} {σ1 : pr_I} {x2 : Int32}, (m_gn_fl2 σ z j σ1 x2) o = σ1 o := by
  simp only [List.mem_cons, List.not_mem_nil, or_false, forall_eq_or_imp, forall_eq] at hms
  intro j
  induction j with
  | zero => intro _ _; rfl
  | succ j ih =>
    intro σ1 x2
    show ((if z ≤ x2 then σ1 else (if (x2 + (m_po_r σ1 (z - x2))) = z then (m_po σ1 (z - x2)) else (m_gn_fl2 σ z j (m_ts (m_po σ1 (z - x2))) ((x2 + (m_po_r σ1 (z - x2))) + Int32.ofInt (1)))))) o = σ1 o
    by_cases c_4 : z ≤ x2
    · refine (congrFun (congrArg (fun z : pr_I => z) (if_pos c_4)) o).trans ?_
      show σ1 o = σ1 o
      rfl
    · refine (congrFun (congrArg (fun z : pr_I => z) (if_neg c_4)) o).trans ?_
      by_cases c_19 : (x2 + (m_po_r σ1 (z - x2))) = z
      · refine (congrFun (congrArg (fun z : pr_I => z) (if_pos c_19)) o).trans ?_
        show (m_po σ1 (z - x2)) o = σ1 o
        rw [fr_m_po (by simp only [List.mem_cons, List.not_mem_nil, or_false, forall_eq_or_imp, forall_eq]; omega)]
      · refine (congrFun (congrArg (fun z : pr_I => z) (if_neg c_19)) o).trans ?_
        rw [ih, fr_m_ts (by simp only [List.mem_cons, List.not_mem_nil, or_false, forall_eq_or_imp, forall_eq]; omega), fr_m_po (by simp only [List.mem_cons, List.not_mem_nil, or_false, forall_eq_or_imp, forall_eq]; omega)]
theorem fw_m_gn_fl2 {σ : pr_I} {z : Int32} {j0 : Nat} (hj : j0 < 12) (hmw : ∀ m ∈ ([0, 9] : List Nat), j0 ≠ m) : ∀ {j : Nat} {σ1 : pr_I} {x2 : Int32}, (m_gn_fl2 σ z j σ1 x2) 1 j0 = σ1 1 j0 := by
  simp only [List.mem_cons, List.not_mem_nil, or_false, forall_eq_or_imp, forall_eq] at hmw
  intro j
  induction j with
  | zero => intro _ _; rfl
  | succ j ih =>
    intro σ1 x2
    show ((if z ≤ x2 then σ1 else (if (x2 + (m_po_r σ1 (z - x2))) = z then (m_po σ1 (z - x2)) else (m_gn_fl2 σ z j (m_ts (m_po σ1 (z - x2))) ((x2 + (m_po_r σ1 (z - x2))) + Int32.ofInt (1)))))) 1 j0 = σ1 1 j0
    by_cases c_4 : z ≤ x2
    · refine (congrArg (fun z : pr_I => z 1 j0) (if_pos c_4)).trans ?_
      exact rfl
    · refine (congrArg (fun z : pr_I => z 1 j0) (if_neg c_4)).trans ?_
      by_cases c_19 : (x2 + (m_po_r σ1 (z - x2))) = z
      · refine (congrArg (fun z : pr_I => z 1 j0) (if_pos c_19)).trans ?_
        exact (fw_m_po hj (by simp only [List.mem_cons, List.not_mem_nil, or_false, forall_eq_or_imp, forall_eq]; omega))
      · refine (congrArg (fun z : pr_I => z 1 j0) (if_neg c_19)).trans ?_
        exact (ih.trans ((fw_m_ts hj (by simp only [List.mem_cons, List.not_mem_nil, or_false, forall_eq_or_imp, forall_eq]; omega)).trans (fw_m_po hj (by simp only [List.mem_cons, List.not_mem_nil, or_false, forall_eq_or_imp, forall_eq]; omega))))

noncomputable def m_gn (σ : pr_I) (z : Int32) : pr_I := (m_gn_fl2 σ z (sl 2001) σ (0 : Int32))
theorem fr_m_gn {σ : pr_I} {z : Int32} {o : Nat} (hms : ∀ m ∈ ([0, 1, 8, 9, 10] : List Nat), o ≠ m) : m_gn σ z o = σ o := by
  unfold m_gn
  simp only [List.mem_cons, List.not_mem_nil, or_false, forall_eq_or_imp, forall_eq] at hms
  rw [fr_m_gn_fl2 (by simp only [List.mem_cons, List.not_mem_nil, or_false, forall_eq_or_imp, forall_eq]; omega)]

theorem fw_m_gn {σ : pr_I} {z : Int32} {j0 : Nat} (hj : j0 < 12) (hmw : ∀ m ∈ ([0, 9] : List Nat), j0 ≠ m) : m_gn σ z 1 j0 = σ 1 j0 := by
  simp only [List.mem_cons, List.not_mem_nil, or_false, forall_eq_or_imp, forall_eq] at hmw
  unfold m_gn
  exact (fw_m_gn_fl2 hj (by simp only [List.mem_cons, List.not_mem_nil, or_false, forall_eq_or_imp, forall_eq]; omega))
theorem mI_m_gn_fl2 {σ : pr_I} {z : Int32} : ∀ (j : Nat) (σ1 : pr_I) (x2 : Int32), mI σ1 → m_gn_ok2 σ z j σ1 x2 → mI (m_gn_fl2 σ z j σ1 x2)
  | 0, _, _, _, hok => hok.elim
  | j + 1, σ1, x2, hJ, hok => by
    by_cases c_4 : z ≤ x2
    · simp only [m_gn_fl2, if_pos c_4]; exact hJ
    · by_cases c_19 : (x2 + (m_po_r σ1 (z - x2))) = z
      · simp only [m_gn_fl2, if_neg c_4, if_pos c_19]; exact mI_m_po hJ
      · simp only [m_gn_ok2, if_neg c_4, if_neg c_19] at hok
        simp only [m_gn_fl2, if_neg c_4, if_neg c_19]
        exact mI_m_gn_fl2 j _ _ (mI_m_ts (mI_m_po hJ) hok.1) hok.2
def m_gn_ok (σ : pr_I) (z : Int32) : Prop := m_gn_ok2 σ z (sl 2001) σ (0 : Int32)
theorem mI_m_gn {σ : pr_I} {z : Int32} (hI : mI σ) (hok : m_gn_ok σ z) : mI (m_gn σ z) := mI_m_gn_fl2 _ _ _ hI hok
noncomputable def m_ua_fl2 (σ : pr_I) (r : Nat) : Nat → pr_I → Int32 → pr_I × Int32
  | 0, σ1, _ => (σ1, 0)
  | j + 1, σ1, x2 => (if (σ1 1 (264 + 28 * r + 4)) = (2 : Int32) then (σ1, (if (σ1 1 (264 + 28 * r + 4)) = (2 : Int32) then (if x2 ≤ (2000 : Int32) then x2 else ((-1) : Int32)) else ((-1) : Int32))) else (if (2000 : Int32) < x2 then (σ1, (if (σ1 1 (264 + 28 * r + 4)) = (2 : Int32) then (if x2 ≤ (2000 : Int32) then x2 else ((-1) : Int32)) else ((-1) : Int32))) else (if (m_ne_r σ1) = ((-1) : Int32) then (σ1, (if (σ1 1 (264 + 28 * r + 4)) = (2 : Int32) then (if x2 ≤ (2000 : Int32) then x2 else ((-1) : Int32)) else ((-1) : Int32))) else (m_ua_fl2 σ r j (m_ts (m_po σ1 ((2000 : Int32) - x2))) ((x2 + (m_po_r σ1 ((2000 : Int32) - x2))) + Int32.ofInt (1))))))
def m_ua_ok2 (σ : pr_I) (r : Nat) : Nat → pr_I → Int32 → Prop
  | 0, _, _ => False
  | j + 1, σ1, x2 => (if (σ1 1 (264 + 28 * r + 4)) = (2 : Int32) then True else (if (2000 : Int32) < x2 then True else (if (m_ne_r σ1) = ((-1) : Int32) then True else ((m_ts_ok (m_po σ1 ((2000 : Int32) - x2))) ∧ (m_ua_ok2 σ r j (m_ts (m_po σ1 ((2000 : Int32) - x2))) ((x2 + (m_po_r σ1 ((2000 : Int32) - x2))) + Int32.ofInt (1)))))))
theorem fr_m_ua_fl2 {σ : pr_I} {r : Nat} {o : Nat} (hms : ∀ m ∈ ([0, 1, 8, 9, 10] : List Nat), o ≠ m) : ∀ {j : Nat} {σ1 : pr_I} {x2 : Int32}, (m_ua_fl2 σ r j σ1 x2).1 o = σ1 o := by
  simp only [List.mem_cons, List.not_mem_nil, or_false, forall_eq_or_imp, forall_eq] at hms
  intro j
  induction j with
  | zero => intro _ _; rfl
  | succ j ih =>
    intro σ1 x2
    show ((if (σ1 1 (264 + 28 * r + 4)) = (2 : Int32) then (σ1, (if (σ1 1 (264 + 28 * r + 4)) = (2 : Int32) then (if x2 ≤ (2000 : Int32) then x2 else ((-1) : Int32)) else ((-1) : Int32))) else (if (2000 : Int32) < x2 then (σ1, (if (σ1 1 (264 + 28 * r + 4)) = (2 : Int32) then (if x2 ≤ (2000 : Int32) then x2 else ((-1) : Int32)) else ((-1) : Int32))) else (if (m_ne_r σ1) = ((-1) : Int32) then (σ1, (if (σ1 1 (264 + 28 * r + 4)) = (2 : Int32) then (if x2 ≤ (2000 : Int32) then x2 else ((-1) : Int32)) else ((-1) : Int32))) else (m_ua_fl2 σ r j (m_ts (m_po σ1 ((2000 : Int32) - x2))) ((x2 + (m_po_r σ1 ((2000 : Int32) - x2))) + Int32.ofInt (1))))))).1 o = σ1 o
    by_cases c_9 : (σ1 1 (264 + 28 * r + 4)) = (2 : Int32)
    · refine (congrFun (congrArg (fun z : pr_I × Int32 => z.1) (if_pos c_9)) o).trans ?_
      show σ1 o = σ1 o
      rfl
    · refine (congrFun (congrArg (fun z : pr_I × Int32 => z.1) (if_neg c_9)) o).trans ?_
      by_cases c_16 : (2000 : Int32) < x2
      · refine (congrFun (congrArg (fun z : pr_I × Int32 => z.1) (if_pos c_16)) o).trans ?_
        show σ1 o = σ1 o
        rfl
      · refine (congrFun (congrArg (fun z : pr_I × Int32 => z.1) (if_neg c_16)) o).trans ?_
        by_cases c_24 : (m_ne_r σ1) = ((-1) : Int32)
        · refine (congrFun (congrArg (fun z : pr_I × Int32 => z.1) (if_pos c_24)) o).trans ?_
          show σ1 o = σ1 o
          rfl
        · refine (congrFun (congrArg (fun z : pr_I × Int32 => z.1) (if_neg c_24)) o).trans ?_
          rw [ih, fr_m_ts (by simp only [List.mem_cons, List.not_mem_nil, or_false, forall_eq_or_imp, forall_eq]; omega), fr_m_po (by simp only [List.mem_cons, List.not_mem_nil, or_false, forall_eq_or_imp, forall_eq]; omega)]
theorem fw_m_ua_fl2 {σ : pr_I} {r : Nat} {j0 : Nat} (hj : j0 < 12) (hmw : ∀ m ∈ ([0, 9] : List Nat), j0 ≠ m) : ∀ {j : Nat} {σ1 : pr_I} {x2 : Int32}, (m_ua_fl2 σ r j σ1 x2).1 1 j0 = σ1 1 j0 := by
  simp only [List.mem_cons, List.not_mem_nil, or_false, forall_eq_or_imp, forall_eq] at hmw
  intro j
  induction j with
  | zero => intro _ _; rfl
  | succ j ih =>
    intro σ1 x2
    show ((if (σ1 1 (264 + 28 * r + 4)) = (2 : Int32) then (σ1, (if (σ1 1 (264 + 28 * r + 4)) = (2 : Int32) then (if x2 ≤ (2000 : Int32) then x2 else ((-1) : Int32)) else ((-1) : Int32))) else (if (2000 : Int32) < x2 then (σ1, (if (σ1 1 (264 + 28 * r + 4)) = (2 : Int32) then (if x2 ≤ (2000 : Int32) then x2 else ((-1) : Int32)) else ((-1) : Int32))) else (if (m_ne_r σ1) = ((-1) : Int32) then (σ1, (if (σ1 1 (264 + 28 * r + 4)) = (2 : Int32) then (if x2 ≤ (2000 : Int32) then x2 else ((-1) : Int32)) else ((-1) : Int32))) else (m_ua_fl2 σ r j (m_ts (m_po σ1 ((2000 : Int32) - x2))) ((x2 + (m_po_r σ1 ((2000 : Int32) - x2))) + Int32.ofInt (1))))))).1 1 j0 = σ1 1 j0
    by_cases c_9 : (σ1 1 (264 + 28 * r + 4)) = (2 : Int32)
    · refine (congrArg (fun z : pr_I × Int32 => z.1 1 j0) (if_pos c_9)).trans ?_
      exact rfl
    · refine (congrArg (fun z : pr_I × Int32 => z.1 1 j0) (if_neg c_9)).trans ?_
      by_cases c_16 : (2000 : Int32) < x2
      · refine (congrArg (fun z : pr_I × Int32 => z.1 1 j0) (if_pos c_16)).trans ?_
        exact rfl
      · refine (congrArg (fun z : pr_I × Int32 => z.1 1 j0) (if_neg c_16)).trans ?_
        by_cases c_24 : (m_ne_r σ1) = ((-1) : Int32)
        · refine (congrArg (fun z : pr_I × Int32 => z.1 1 j0) (if_pos c_24)).trans ?_
          exact rfl
        · refine (congrArg (fun z : pr_I × Int32 => z.1 1 j0) (if_neg c_24)).trans ?_
          exact (ih.trans ((fw_m_ts hj (by simp only [List.mem_cons, List.not_mem_nil, or_false, forall_eq_or_imp, forall_eq]; omega)).trans (fw_m_po hj (by simp only [List.mem_cons, List.not_mem_nil, or_false, forall_eq_or_imp, forall_eq]; omega))))

noncomputable def m_ua_r (σ : pr_I) (r : Nat) : Int32 := ((m_ua_fl2 σ r (sl 2002) σ (0 : Int32)).2)
noncomputable def m_ua (σ : pr_I) (r : Nat) : pr_I := (m_ua_fl2 σ r (sl 2002) σ (0 : Int32)).1
theorem fr_m_ua {σ : pr_I} {r : Nat} {o : Nat} (hms : ∀ m ∈ ([0, 1, 8, 9, 10] : List Nat), o ≠ m) : m_ua σ r o = σ o := by
  unfold m_ua
  simp only [List.mem_cons, List.not_mem_nil, or_false, forall_eq_or_imp, forall_eq] at hms
  rw [fr_m_ua_fl2 (by simp only [List.mem_cons, List.not_mem_nil, or_false, forall_eq_or_imp, forall_eq]; omega)]

theorem fw_m_ua {σ : pr_I} {r : Nat} {j0 : Nat} (hj : j0 < 12) (hmw : ∀ m ∈ ([0, 9] : List Nat), j0 ≠ m) : m_ua σ r 1 j0 = σ 1 j0 := by
  simp only [List.mem_cons, List.not_mem_nil, or_false, forall_eq_or_imp, forall_eq] at hmw
  unfold m_ua
  exact (fw_m_ua_fl2 hj (by simp only [List.mem_cons, List.not_mem_nil, or_false, forall_eq_or_imp, forall_eq]; omega))
theorem mI_m_ua_fl2 {σ : pr_I} {r : Nat} : ∀ (j : Nat) (σ1 : pr_I) (x2 : Int32), mI σ1 → m_ua_ok2 σ r j σ1 x2 → mI (m_ua_fl2 σ r j σ1 x2).1
  | 0, _, _, _, hok => hok.elim
  | j + 1, σ1, x2, hJ, hok => by
    by_cases c_9 : (σ1 1 (264 + 28 * r + 4)) = (2 : Int32)
    · simp only [m_ua_fl2, if_pos c_9]; exact hJ
    · by_cases c_16 : (2000 : Int32) < x2
      · simp only [m_ua_fl2, if_neg c_9, if_pos c_16]; exact hJ
      · by_cases c_24 : (m_ne_r σ1) = ((-1) : Int32)
        · simp only [m_ua_fl2, if_neg c_9, if_neg c_16, if_pos c_24]; exact hJ
        · simp only [m_ua_ok2, if_neg c_9, if_neg c_16, if_neg c_24] at hok
          simp only [m_ua_fl2, if_neg c_9, if_neg c_16, if_neg c_24]
          exact mI_m_ua_fl2 j _ _ (mI_m_ts (mI_m_po hJ) hok.1) hok.2
def m_ua_ok (σ : pr_I) (r : Nat) : Prop := m_ua_ok2 σ r (sl 2002) σ (0 : Int32)
theorem mI_m_ua {σ : pr_I} {r : Nat} (hI : mI σ) (hok : m_ua_ok σ r) : mI (m_ua σ r) := mI_m_ua_fl2 _ _ _ hI hok
/-! rows laid over each other -/
theorem mW_lt {j B : Nat} (h : mW j = some B) : j < 5384 := by
  rcases Nat.lt_or_ge j 5384 with c | c
  · exact c
  · unfold mW at h
    rw [if_neg (by omega), if_neg (by omega), if_neg (by omega), if_neg (by omega), if_neg (by omega)] at h
    cases h
theorem mB_row {o k B : Nat} (h1 : 0 < o) (h2 : o < 6) (h : mB o k = some B) : mW k = some B := by
  unfold mB at h; rw [if_neg (by omega), if_pos h2] at h; exact h
theorem mW_row {o k B : Nat} (h1 : 0 < o) (h2 : o < 6) (h : mW k = some B) : mB o k = some B := by
  unfold mB; rw [if_neg (by omega), if_pos h2]; exact h
theorem mI_cpf {f g : Nat → Int32} (hf : ∀ k B, mW k = some B → vp_in (f k) B) : ∀ k B, mW k = some B → vp_in (cp_row f g 5384 k) B := fun k B q => by
  unfold cp_row; rw [if_pos (mW_lt q)]; exact hf k B q
theorem mI_rw {σ : pr_I} (h : mI σ) {o : Nat} (h1 : 0 < o) (h2 : o < 6) : ∀ k B, mW k = some B → vp_in (σ o k) B := fun k B q => h o k B (mW_row h1 h2 q)
theorem mI.cp {σ : pr_I} {b : Nat} {f g : Nat → Int32} (h : mI σ) (h1 : 0 < b) (h2 : b < 6) (hf : ∀ k B, mW k = some B → vp_in (f k) B) : mI (pr_row σ b (cp_row f g 5384)) :=
  mI.row h (fun k B q => mI_cpf hf k B (mB_row h1 h2 q))
def m_fn_ok (σ : pr_I) (s t u : Int32) : Prop := m_mk_ok (pr_row σ 2 (cp_row (σ 1) (σ 2) 5384)) s t u 1 ∧ m_ua_ok (m_mk (pr_row σ 2 (cp_row (σ 1) (σ 2) 5384)) s t u (1 : Int32)) (mrn σ)
noncomputable def m_fn_r (σ : pr_I) (s : Int32) (t : Int32) (u : Int32) : Int32 := (m_ua_r (m_mk (pr_row σ 2 (cp_row (σ 1) (σ 2) 5384)) s t u (1 : Int32)) (mrn σ))
noncomputable def m_fn (σ : pr_I) (s : Int32) (t : Int32) (u : Int32) : pr_I := (pr_row (m_ua (m_mk (pr_row σ 2 (cp_row (σ 1) (σ 2) 5384)) s t u (1 : Int32)) (mrn σ)) 1 (cp_row (cp_row (σ 1) (σ 2) 5384) ((m_ua (m_mk (pr_row σ 2 (cp_row (σ 1) (σ 2) 5384)) s t u (1 : Int32)) (mrn σ)) 1) 5384))
theorem fr_m_fn {σ : pr_I} {s : Int32} {t : Int32} {u : Int32} {o : Nat} (hms : ∀ m ∈ ([0, 1, 2, 8, 9, 10] : List Nat), o ≠ m) : m_fn σ s t u o = σ o := by
  unfold m_fn
  simp only [List.mem_cons, List.not_mem_nil, or_false, forall_eq_or_imp, forall_eq] at hms
  rw [pr_row_ne (by omega), fr_m_ua (by simp only [List.mem_cons, List.not_mem_nil, or_false, forall_eq_or_imp, forall_eq]; omega), fr_m_mk (by simp only [List.mem_cons, List.not_mem_nil, or_false, forall_eq_or_imp, forall_eq]; omega), pr_row_ne (by omega)]

theorem mI_m_fn {σ : pr_I} {s t u : Int32} (hI : mI σ) (hs : vp_in s 12) (ht : vp_in t 12) (hr40 : mrn σ < 40) (hok : m_fn_ok σ s t u) : mI (m_fn σ s t u) := by
  unfold m_fn
  exact mI.cp (mI_m_ua (mI_m_mk (mI.cp hI (by decide) (by decide) (mI_rw hI (by decide) (by decide))) hs ht hr40 hok.1) hok.2) (by decide) (by decide) (mI_cpf (mI_rw hI (by decide) (by decide)))
