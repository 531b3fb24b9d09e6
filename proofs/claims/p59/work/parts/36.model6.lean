noncomputable def m_sh_r (σ : pr_I) (lk : Nat) : Int32 := (if (σ 8 ((σ 1 (96 + 7 * lk + 1)).toNatClampNeg)) = (1000000000 : Int32) then (0 : Int32) else (if ((σ 8 ((σ 1 (96 + 7 * lk + 1)).toNatClampNeg)) + (σ 1 (96 + 7 * lk + 3))) < (σ 8 ((σ 1 (96 + 7 * lk + 0)).toNatClampNeg)) then (1 : Int32) else (if ((σ 8 ((σ 1 (96 + 7 * lk + 1)).toNatClampNeg)) + (σ 1 (96 + 7 * lk + 3))) = (σ 8 ((σ 1 (96 + 7 * lk + 0)).toNatClampNeg)) then (if (σ 9 ((σ 1 (96 + 7 * lk + 0)).toNatClampNeg)) ≤ ((σ 9 ((σ 1 (96 + 7 * lk + 1)).toNatClampNeg)) + (1 : Int32)) then (0 : Int32) else (1 : Int32)) else (0 : Int32))))
noncomputable def m_on_r (σ : pr_I) (lk : Nat) (x : Int32) : Int32 := (if (σ 1 (96 + 7 * lk + 0)) = x then (if (σ 8 ((σ 1 (96 + 7 * lk + 1)).toNatClampNeg)) = (1000000000 : Int32) then (0 : Int32) else (if ((σ 8 ((σ 1 (96 + 7 * lk + 1)).toNatClampNeg)) + (σ 1 (96 + 7 * lk + 3))) = (σ 8 x.toNatClampNeg) then (if ((σ 9 ((σ 1 (96 + 7 * lk + 1)).toNatClampNeg)) + (1 : Int32)) = (σ 9 x.toNatClampNeg) then (1 : Int32) else (0 : Int32)) else (0 : Int32))) else (0 : Int32))
theorem mI_89 {σ ψ : pr_I} (h : mI σ) (hk : ∀ {o : Nat}, (∀ m ∈ ([8, 9] : List Nat), o ≠ m) → ψ o = σ o) : mI ψ := h.keep (fun o j B q => by
  have ho : ∀ m ∈ ([8, 9] : List Nat), o ≠ m := by
    intro m hm
    simp only [List.mem_cons, List.not_mem_nil, or_false] at hm
    rcases hm with rfl | rfl
    · intro e; subst e; simp [mB] at q
    · intro e; subst e; simp [mB] at q
  rw [hk ho])
noncomputable def m_lp_it2 (σ : pr_I) (t : Int32) (u : Int32) : Nat → pr_I
  | 0 => σ
  | k + 1 => (pr_up (pr_up (m_lp_it2 σ t u k) 8 k (1000000000 : Int32)) 9 k (1000000000 : Int32))
theorem fr_m_lp_it2 {σ : pr_I} {t : Int32} {u : Int32} {o : Nat} (hms : ∀ m ∈ ([8, 9] : List Nat), o ≠ m) : ∀ {k : Nat}, (m_lp_it2 σ t u k) o = σ o := by
  simp only [List.mem_cons, List.not_mem_nil, or_false, forall_eq_or_imp, forall_eq] at hms
  intro k
  induction k with
  | zero =>
    show σ o = σ o
    rfl
  | succ k ih =>
    show (pr_up (pr_up (m_lp_it2 σ t u k) 8 k (1000000000 : Int32)) 9 k (1000000000 : Int32)) o = σ o
    rw [pr_up_ne (by omega), pr_up_ne (by omega), ih]

noncomputable def m_lp_it60 (σ σ1 : pr_I) (t : Int32) (u : Int32) (k : Nat) : Nat → pr_I × Int32
  | 0 => (σ1, (nI 0))
  | k1 + 1 => (if (m_has_r (m_lp_it60 σ σ1 t u k k1).1 u (nI k1)) = 0 then ((m_lp_it60 σ σ1 t u k k1).1, ((m_lp_it60 σ σ1 t u k k1).2)) else (if (m_sh_r (m_lp_it60 σ σ1 t u k k1).1 k1) = 0 then ((m_lp_it60 σ σ1 t u k k1).1, ((m_lp_it60 σ σ1 t u k k1).2)) else ((pr_up (pr_up (m_lp_it60 σ σ1 t u k k1).1 8 ((σ 1 (96 + 7 * k1 + 0)).toNatClampNeg) (((m_lp_it60 σ σ1 t u k k1).1 8 ((σ 1 (96 + 7 * k1 + 1)).toNatClampNeg)) + (σ 1 (96 + 7 * k1 + 3)))) 9 ((σ 1 (96 + 7 * k1 + 0)).toNatClampNeg) (((m_lp_it60 σ σ1 t u k k1).1 9 ((σ 1 (96 + 7 * k1 + 1)).toNatClampNeg)) + (1 : Int32))), (nI 1))))
theorem fr_m_lp_it60 {σ σ1 : pr_I} {t : Int32} {u : Int32} {k : Nat} {o : Nat} (hms : ∀ m ∈ ([8, 9] : List Nat), o ≠ m) : ∀ {k1 : Nat}, (m_lp_it60 σ σ1 t u k k1).1 o = σ1 o := by
  simp only [List.mem_cons, List.not_mem_nil, or_false, forall_eq_or_imp, forall_eq] at hms
  intro k1
  induction k1 with
  | zero =>
    show σ1 o = σ1 o
    rfl
  | succ k1 ih =>
    by_cases c_78 : (m_has_r (m_lp_it60 σ σ1 t u k k1).1 u (nI k1)) = 0
    · refine (congrFun (congrArg (fun z : pr_I × Int32 => z.1) (if_pos c_78)) o).trans ?_
      show (m_lp_it60 σ σ1 t u k k1).1 o = σ1 o
      rw [ih]
    · refine (congrFun (congrArg (fun z : pr_I × Int32 => z.1) (if_neg c_78)) o).trans ?_
      by_cases c_87 : (m_sh_r (m_lp_it60 σ σ1 t u k k1).1 k1) = 0
      · refine (congrFun (congrArg (fun z : pr_I × Int32 => z.1) (if_pos c_87)) o).trans ?_
        show (m_lp_it60 σ σ1 t u k k1).1 o = σ1 o
        rw [ih]
      · refine (congrFun (congrArg (fun z : pr_I × Int32 => z.1) (if_neg c_87)) o).trans ?_
        show (pr_up (pr_up (m_lp_it60 σ σ1 t u k k1).1 8 ((σ 1 (96 + 7 * k1 + 0)).toNatClampNeg) (((m_lp_it60 σ σ1 t u k k1).1 8 ((σ 1 (96 + 7 * k1 + 1)).toNatClampNeg)) + (σ 1 (96 + 7 * k1 + 3)))) 9 ((σ 1 (96 + 7 * k1 + 0)).toNatClampNeg) (((m_lp_it60 σ σ1 t u k k1).1 9 ((σ 1 (96 + 7 * k1 + 1)).toNatClampNeg)) + (1 : Int32))) o = σ1 o
        rw [pr_up_ne (by omega), pr_up_ne (by omega), ih]

noncomputable def m_lp_it51 (σ : pr_I) (t : Int32) (u : Int32) : Nat → pr_I × Int32
  | 0 => ((pr_up (pr_up (m_lp_it2 σ t u (mnn σ)) 8 t.toNatClampNeg (0 : Int32)) 9 t.toNatClampNeg (0 : Int32)), (nI 1))
  | k + 1 => (if ((m_lp_it51 σ t u k).2) = 0 then ((m_lp_it51 σ t u k).1, ((m_lp_it51 σ t u k).2)) else ((m_lp_it60 σ (m_lp_it51 σ t u k).1 t u k (mln σ)).1, ((m_lp_it60 σ (m_lp_it51 σ t u k).1 t u k (mln σ)).2)))
theorem fr_m_lp_it51 {σ : pr_I} {t : Int32} {u : Int32} {o : Nat} (hms : ∀ m ∈ ([8, 9] : List Nat), o ≠ m) : ∀ {k : Nat}, (m_lp_it51 σ t u k).1 o = (pr_up (pr_up (m_lp_it2 σ t u (mnn σ)) 8 t.toNatClampNeg (0 : Int32)) 9 t.toNatClampNeg (0 : Int32)) o := by
  simp only [List.mem_cons, List.not_mem_nil, or_false, forall_eq_or_imp, forall_eq] at hms
  intro k
  induction k with
  | zero =>
    show (pr_up (pr_up (m_lp_it2 σ t u (mnn σ)) 8 t.toNatClampNeg (0 : Int32)) 9 t.toNatClampNeg (0 : Int32)) o = (pr_up (pr_up (m_lp_it2 σ t u (mnn σ)) 8 t.toNatClampNeg (0 : Int32)) 9 t.toNatClampNeg (0 : Int32)) o
    rfl
  | succ k ih =>
    by_cases c_52 : ((m_lp_it51 σ t u k).2) = 0
    · refine (congrFun (congrArg (fun z : pr_I × Int32 => z.1) (if_pos c_52)) o).trans ?_
      show (m_lp_it51 σ t u k).1 o = (pr_up (pr_up (m_lp_it2 σ t u (mnn σ)) 8 t.toNatClampNeg (0 : Int32)) 9 t.toNatClampNeg (0 : Int32)) o
      rw [ih]
    · refine (congrFun (congrArg (fun z : pr_I × Int32 => z.1) (if_neg c_52)) o).trans ?_
      show (m_lp_it60 σ (m_lp_it51 σ t u k).1 t u k (mln σ)).1 o = (pr_up (pr_up (m_lp_it2 σ t u (mnn σ)) 8 t.toNatClampNeg (0 : Int32)) 9 t.toNatClampNeg (0 : Int32)) o
      rw [fr_m_lp_it60 (by simp only [List.mem_cons, List.not_mem_nil, or_false, forall_eq_or_imp, forall_eq]; omega), ih]

noncomputable def m_lp_it51_e (σ : pr_I) (t : Int32) (u : Int32) (k : Nat) : Bool := (if ((m_lp_it51 σ t u k).2) = 0 then true else false)
theorem st_m_lp_it51_52 {σ : pr_I} {t : Int32} {u : Int32} {k : Nat} (c_52 : ((m_lp_it51 σ t u k).2) = 0) : ∀ j, m_lp_it51 σ t u (k + j) = m_lp_it51 σ t u k
  | 0 => rfl
  | j + 1 => by
    have ih := st_m_lp_it51_52 c_52 j
    show m_lp_it51 σ t u ((k + j) + 1) = m_lp_it51 σ t u k
    simp only [m_lp_it51, ih, if_pos c_52]
noncomputable def m_lp (σ : pr_I) (t : Int32) (u : Int32) : pr_I := (m_lp_it51 σ t u (sl 13)).1
theorem fr_m_lp {σ : pr_I} {t : Int32} {u : Int32} {o : Nat} (hms : ∀ m ∈ ([8, 9] : List Nat), o ≠ m) : m_lp σ t u o = σ o := by
  unfold m_lp
  simp only [List.mem_cons, List.not_mem_nil, or_false, forall_eq_or_imp, forall_eq] at hms
  rw [fr_m_lp_it51 (by simp only [List.mem_cons, List.not_mem_nil, or_false, forall_eq_or_imp, forall_eq]; omega), pr_up_ne (by omega), pr_up_ne (by omega), fr_m_lp_it2 (by simp only [List.mem_cons, List.not_mem_nil, or_false, forall_eq_or_imp, forall_eq]; omega)]

