noncomputable def m_fi_it36 (σ σ1 : pr_I) (s : Int32) (t : Int32) (u : Int32) (k : Nat) (x4 : Int32) : Nat → Int32
  | 0 => (0 : Int32)
  | k1 + 1 => (if (m_has_r σ1 u (m_fi_it36 σ σ1 s t u k x4 k1)) = 0 then ((m_fi_it36 σ σ1 s t u k x4 k1) + Int32.ofInt (1)) else (if (m_on_r σ1 (m_fi_it36 σ σ1 s t u k x4 k1).toNatClampNeg x4) = 0 then ((m_fi_it36 σ σ1 s t u k x4 k1) + Int32.ofInt (1)) else (m_fi_it36 σ σ1 s t u k x4 k1)))
noncomputable def m_fi_it36_e (σ σ1 : pr_I) (s : Int32) (t : Int32) (u : Int32) (k : Nat) (x4 : Int32) (k1 : Nat) : Bool := (if (m_has_r σ1 u (m_fi_it36 σ σ1 s t u k x4 k1)) = 0 then false else (if (m_on_r σ1 (m_fi_it36 σ σ1 s t u k x4 k1).toNatClampNeg x4) = 0 then false else true))
theorem st_m_fi_it36_53 {σ σ1 : pr_I} {s : Int32} {t : Int32} {u : Int32} {k : Nat} {x4 : Int32} {k1 : Nat} (c_42 : ¬ ((m_has_r σ1 u (m_fi_it36 σ σ1 s t u k x4 k1)) = 0)) (c_53 : ¬ ((m_on_r σ1 (m_fi_it36 σ σ1 s t u k x4 k1).toNatClampNeg x4) = 0)) : ∀ j, m_fi_it36 σ σ1 s t u k x4 (k1 + j) = m_fi_it36 σ σ1 s t u k x4 k1
  | 0 => rfl
  | j + 1 => by
    have ih := st_m_fi_it36_53 c_42 c_53 j
    show m_fi_it36 σ σ1 s t u k x4 ((k1 + j) + 1) = m_fi_it36 σ σ1 s t u k x4 k1
    simp only [m_fi_it36, ih, if_neg c_42, if_neg c_53]
noncomputable def m_fi_it27 (σ : pr_I) (s : Int32) (t : Int32) (u : Int32) : Nat → pr_I × Int32
  | 0 => ((pr_up (m_lp σ t u) 0 17 (0 : Int32)), s)
  | k + 1 => (if ((m_fi_it27 σ s t u k).2) = t then ((m_fi_it27 σ s t u k).1, ((m_fi_it27 σ s t u k).2)) else ((pr_up (pr_up (m_fi_it27 σ s t u k).1 10 (((m_fi_it27 σ s t u k).1 0 17).toNatClampNeg) (m_fi_it36 σ (m_fi_it27 σ s t u k).1 s t u k ((m_fi_it27 σ s t u k).2) (sl 23))) 0 17 (((m_fi_it27 σ s t u k).1 0 17) + (1 : Int32))), (σ 1 (96 + 7 * ((m_fi_it36 σ (m_fi_it27 σ s t u k).1 s t u k ((m_fi_it27 σ s t u k).2) (sl 23)).toNatClampNeg) + 1))))
theorem fr_m_fi_it27 {σ : pr_I} {s : Int32} {t : Int32} {u : Int32} {o : Nat} (hms : ∀ m ∈ ([0, 10] : List Nat), o ≠ m) : ∀ {k : Nat}, (m_fi_it27 σ s t u k).1 o = (pr_up (m_lp σ t u) 0 17 (0 : Int32)) o := by
  simp only [List.mem_cons, List.not_mem_nil, or_false, forall_eq_or_imp, forall_eq] at hms
  intro k
  induction k with
  | zero =>
    show (pr_up (m_lp σ t u) 0 17 (0 : Int32)) o = (pr_up (m_lp σ t u) 0 17 (0 : Int32)) o
    rfl
  | succ k ih =>
    by_cases c_30 : ((m_fi_it27 σ s t u k).2) = t
    · refine (congrFun (congrArg (fun z : pr_I × Int32 => z.1) (if_pos c_30)) o).trans ?_
      show (m_fi_it27 σ s t u k).1 o = (pr_up (m_lp σ t u) 0 17 (0 : Int32)) o
      rw [ih]
    · refine (congrFun (congrArg (fun z : pr_I × Int32 => z.1) (if_neg c_30)) o).trans ?_
      show (pr_up (pr_up (m_fi_it27 σ s t u k).1 10 (((m_fi_it27 σ s t u k).1 0 17).toNatClampNeg) (m_fi_it36 σ (m_fi_it27 σ s t u k).1 s t u k ((m_fi_it27 σ s t u k).2) (sl 23))) 0 17 (((m_fi_it27 σ s t u k).1 0 17) + (1 : Int32))) o = (pr_up (m_lp σ t u) 0 17 (0 : Int32)) o
      rw [pr_up_ne (by omega), pr_up_ne (by omega), ih]

noncomputable def m_fi_it27_e (σ : pr_I) (s : Int32) (t : Int32) (u : Int32) (k : Nat) : Bool := (if ((m_fi_it27 σ s t u k).2) = t then true else false)
theorem st_m_fi_it27_30 {σ : pr_I} {s : Int32} {t : Int32} {u : Int32} {k : Nat} (c_30 : ((m_fi_it27 σ s t u k).2) = t) : ∀ j, m_fi_it27 σ s t u (k + j) = m_fi_it27 σ s t u k
  | 0 => rfl
  | j + 1 => by
    have ih := st_m_fi_it27_30 c_30 j
    show m_fi_it27 σ s t u ((k + j) + 1) = m_fi_it27 σ s t u k
    simp only [m_fi_it27, ih, if_pos c_30]
noncomputable def m_fi_r (σ : pr_I) (s : Int32) (t : Int32) (u : Int32) : Int32 := (if ((m_lp σ t u) 8 s.toNatClampNeg) = (1000000000 : Int32) then (0 : Int32) else (1 : Int32))
noncomputable def m_fi (σ : pr_I) (s : Int32) (t : Int32) (u : Int32) : pr_I := (if ((m_lp σ t u) 8 s.toNatClampNeg) = (1000000000 : Int32) then (pr_up (m_lp σ t u) 0 17 (0 : Int32)) else (m_fi_it27 σ s t u (sl 12)).1)
theorem fi_y {σ σ1 : pr_I} {s t u : Int32} {k : Nat} {x4 : Int32} : ∀ k1, k1 < 24 → vp_in (m_fi_it36 σ σ1 s t u k x4 k1) (k1 + 1)
  | 0, _ => nI_vin (k := 0) (n := 1) (by decide) (by decide)
  | k1 + 1, h => by
    have ih := fi_y (σ := σ) (σ1 := σ1) (s := s) (t := t) (u := u) (k := k) (x4 := x4) k1 (by omega)
    exact p_ite (P := fun z : Int32 => vp_in z (k1 + 1 + 1)) (vp_inc ih (by omega)) (p_ite (P := fun z : Int32 => vp_in z (k1 + 1 + 1)) (vp_inc ih (by omega)) (vp_in_mono ih (by omega)))
theorem fi_I {σ : pr_I} {s t u : Int32} (hI : mI σ) (hs : vp_in s 12) : ∀ k, k < 13 → mI (m_fi_it27 σ s t u k).1 ∧ vp_in ((m_fi_it27 σ s t u k).1 0 17) (k + 1) ∧ vp_in (m_fi_it27 σ s t u k).2 12
  | 0, _ => by
    have h1 : mI (m_lp σ t u) := mI_89 hI (fun h => fr_m_lp h)
    have h2 : vp_in (0 : Int32) 1 := nI_vin (k := 0) (n := 1) (by decide) (by decide)
    refine ⟨h1.upv (B := 13) rfl (vp_in_mono h2 (by decide)), ?_, hs⟩
    show vp_in (pr_up (m_lp σ t u) 0 17 (0 : Int32) 0 17) 1
    rw [pr_upe]
    exact h2
  | k + 1, h => by
    obtain ⟨i1, i2, i3⟩ := fi_I (σ := σ) (s := s) (t := t) (u := u) hI hs k (by omega)
    have hy : vp_in (m_fi_it36 σ (m_fi_it27 σ s t u k).1 s t u k ((m_fi_it27 σ s t u k).2) (sl 23)) 24 := vp_in_mono (fi_y (sl 23) (by have := sl_eq 23; omega)) (by have := sl_eq 23; omega)
    have hc := vp_inc i2 (by omega)
    refine p_ite (P := fun z : pr_I × Int32 => mI z.1 ∧ vp_in (z.1 0 17) (k + 1 + 1) ∧ vp_in z.2 12) ⟨i1, vp_in_mono i2 (by omega), i3⟩ ⟨(i1.upv (B := 24) rfl hy).upv (B := 13) rfl (vp_in_mono hc (by omega)), ?_, mI_link hI (vp_in_lt hy) (by decide) rfl⟩
    show vp_in (pr_up (pr_up (m_fi_it27 σ s t u k).1 10 (((m_fi_it27 σ s t u k).1 0 17).toNatClampNeg) (m_fi_it36 σ (m_fi_it27 σ s t u k).1 s t u k ((m_fi_it27 σ s t u k).2) (sl 23))) 0 17 (((m_fi_it27 σ s t u k).1 0 17) + (1 : Int32)) 0 17) (k + 1 + 1)
    rw [pr_upe]
    exact hc
theorem fi_lt {σ : pr_I} {s t u : Int32} {k : Nat} (hend : m_fi_it27_e σ s t u (sl 12) = true) (c : ¬ (m_fi_it27 σ s t u k).2 = t) (hk : k ≤ sl 12) : k + 1 ≤ 12 := by
  have h12 := sl_eq 12
  rcases Nat.lt_or_ge k (sl 12) with h | h
  · omega
  · have e : k = sl 12 := by omega
    rw [e] at c
    exact absurd hend (by simp only [m_fi_it27_e, if_neg c]; decide)
theorem fr_m_fi {σ : pr_I} {s : Int32} {t : Int32} {u : Int32} {o : Nat} (hms : ∀ m ∈ ([0, 8, 9, 10] : List Nat), o ≠ m) : m_fi σ s t u o = σ o := by
  unfold m_fi
  simp only [List.mem_cons, List.not_mem_nil, or_false, forall_eq_or_imp, forall_eq] at hms
  by_cases c_19 : ((m_lp σ t u) 8 s.toNatClampNeg) = (1000000000 : Int32)
  · refine (congrFun (if_pos c_19) o).trans ?_
    rw [pr_up_ne (by omega), fr_m_lp (by simp only [List.mem_cons, List.not_mem_nil, or_false, forall_eq_or_imp, forall_eq]; omega)]
  · refine (congrFun (if_neg c_19) o).trans ?_
    rw [fr_m_fi_it27 (by simp only [List.mem_cons, List.not_mem_nil, or_false, forall_eq_or_imp, forall_eq]; omega), pr_up_ne (by omega), fr_m_lp (by simp only [List.mem_cons, List.not_mem_nil, or_false, forall_eq_or_imp, forall_eq]; omega)]

