/-! READING: ends of links, numbers, statements -/
noncomputable def m_re_r (σ : pr_I) (n : Nat) (p : Nat) (fn : Nat) (pl : Nat) (y : Int32) : Int32 := (if (il (σ 7) n (sk (σ 7) n p)) = 0 then (0 : Int32) else (if (nmd (σ 3) (σ 7) (sk (σ 7) n p) ((we (σ 7) n (sk (σ 7) n p)) - (sk (σ 7) n p)) fn) = ((-1) : Int32) then (0 : Int32) else (if (nmd (σ 3) (σ 7) (sk (σ 7) n p) ((we (σ 7) n (sk (σ 7) n p)) - (sk (σ 7) n p)) fn) = y then (0 : Int32) else (1 : Int32))))
noncomputable def m_re (σ : pr_I) (n : Nat) (p : Nat) (fn : Nat) (pl : Nat) (y : Int32) : pr_I := (if (il (σ 7) n (sk (σ 7) n p)) = 0 then (pr_up (pr_up (pr_up (pr_up σ 0 9 (nI (sk (σ 7) n p))) 0 10 (nI (sk (σ 7) n p))) 0 12 (1 : Int32)) 0 11 (nI (sk (σ 7) n p))) else (if (nmd (σ 3) (σ 7) (sk (σ 7) n p) ((we (σ 7) n (sk (σ 7) n p)) - (sk (σ 7) n p)) fn) = ((-1) : Int32) then (pr_up (pr_up (pr_up (pr_up σ 0 9 (nI (sk (σ 7) n p))) 0 10 (nI (sk (σ 7) n p))) 0 12 (3 : Int32)) 0 11 (nI (sk (σ 7) n p))) else (if (nmd (σ 3) (σ 7) (sk (σ 7) n p) ((we (σ 7) n (sk (σ 7) n p)) - (sk (σ 7) n p)) fn) = y then (pr_up (pr_up (pr_up (pr_up σ 0 9 (nI (sk (σ 7) n p))) 0 10 (nI (sk (σ 7) n p))) 0 12 (3 : Int32)) 0 11 (nI (sk (σ 7) n p))) else (pr_up (pr_up (pr_up (pr_up σ 0 9 (nI (sk (σ 7) n p))) 0 10 (nI (sk (σ 7) n p))) 3 pl (nmd (σ 3) (σ 7) (sk (σ 7) n p) ((we (σ 7) n (sk (σ 7) n p)) - (sk (σ 7) n p)) fn)) 0 9 (nI (we (σ 7) n (sk (σ 7) n p)))))))
theorem fr_m_re {σ : pr_I} {n : Nat} {p : Nat} {fn : Nat} {pl : Nat} {y : Int32} {o : Nat} (hms : ∀ m ∈ ([0, 3] : List Nat), o ≠ m) : m_re σ n p fn pl y o = σ o := by
  unfold m_re
  simp only [List.mem_cons, List.not_mem_nil, or_false, forall_eq_or_imp, forall_eq] at hms
  by_cases c_13 : (il (σ 7) n (sk (σ 7) n p)) = 0
  · refine (congrFun (if_pos c_13) o).trans ?_
    rw [pr_up_ne (by omega), pr_up_ne (by omega), pr_up_ne (by omega), pr_up_ne (by omega)]
  · refine (congrFun (if_neg c_13) o).trans ?_
    by_cases c_29 : (nmd (σ 3) (σ 7) (sk (σ 7) n p) ((we (σ 7) n (sk (σ 7) n p)) - (sk (σ 7) n p)) fn) = ((-1) : Int32)
    · refine (congrFun (if_pos c_29) o).trans ?_
      rw [pr_up_ne (by omega), pr_up_ne (by omega), pr_up_ne (by omega), pr_up_ne (by omega)]
    · refine (congrFun (if_neg c_29) o).trans ?_
      by_cases c_34 : (nmd (σ 3) (σ 7) (sk (σ 7) n p) ((we (σ 7) n (sk (σ 7) n p)) - (sk (σ 7) n p)) fn) = y
      · refine (congrFun (if_pos c_34) o).trans ?_
        rw [pr_up_ne (by omega), pr_up_ne (by omega), pr_up_ne (by omega), pr_up_ne (by omega)]
      · refine (congrFun (if_neg c_34) o).trans ?_
        rw [pr_up_ne (by omega), pr_up_ne (by omega), pr_up_ne (by omega), pr_up_ne (by omega)]

theorem m_re_1 {σ : pr_I} {n p fn pl : Nat} {y : Int32} (c : ¬ m_re_r σ n p fn pl y = 0) : m_re σ n p fn pl y = (pr_up (pr_up (pr_up (pr_up σ 0 9 (nI (sk (σ 7) n p))) 0 10 (nI (sk (σ 7) n p))) 3 pl (nmd (σ 3) (σ 7) (sk (σ 7) n p) ((we (σ 7) n (sk (σ 7) n p)) - (sk (σ 7) n p)) fn)) 0 9 (nI (we (σ 7) n (sk (σ 7) n p)))) ∧ isl (σ 7) n (sk (σ 7) n p) ∧ ¬ (nmd (σ 3) (σ 7) (sk (σ 7) n p) ((we (σ 7) n (sk (σ 7) n p)) - (sk (σ 7) n p)) fn) = -1 ∧ ¬ (nmd (σ 3) (σ 7) (sk (σ 7) n p) ((we (σ 7) n (sk (σ 7) n p)) - (sk (σ 7) n p)) fn) = y := by
  unfold m_re_r at c
  unfold m_re
  by_cases c1 : il (σ 7) n (sk (σ 7) n p) = 0
  · rw [if_pos c1] at c; exact absurd rfl c
  · rw [if_neg c1] at c ⊢
    by_cases c2 : (nmd (σ 3) (σ 7) (sk (σ 7) n p) ((we (σ 7) n (sk (σ 7) n p)) - (sk (σ 7) n p)) fn) = -1
    · rw [if_pos c2] at c; exact absurd rfl c
    · rw [if_neg c2] at c ⊢
      by_cases c3 : (nmd (σ 3) (σ 7) (sk (σ 7) n p) ((we (σ 7) n (sk (σ 7) n p)) - (sk (σ 7) n p)) fn) = y
      · rw [if_pos c3] at c; exact absurd rfl c
      · rw [if_neg c3]; exact ⟨rfl, il_t c1, c2, c3⟩
noncomputable def m_rd_r (σ : pr_I) (n p pl : Nat) (lo hi : Int32) : Int32 := if idg (σ 7) n (sk (σ 7) n p) = 0 then (0 : Int32) else if m_in_r σ (nu (σ 7) n (sk (σ 7) n p) 0).2 lo.toInt64 hi.toInt64 = 0 then (0 : Int32) else (1 : Int32)
noncomputable def m_rd (σ : pr_I) (n p pl : Nat) (lo hi : Int32) : pr_I := if idg (σ 7) n (sk (σ 7) n p) = 0 then (pr_up (pr_up (pr_up (pr_up σ 0 9 (nI (sk (σ 7) n p))) 0 10 (nI (sk (σ 7) n p))) 0 12 (1 : Int32)) 0 11 (nI (sk (σ 7) n p))) else if m_in_r σ (nu (σ 7) n (sk (σ 7) n p) 0).2 lo.toInt64 hi.toInt64 = 0 then (pr_up (pr_up (pr_up (pr_up (pr_up σ 0 9 (nI (sk (σ 7) n p))) 0 10 (nI (sk (σ 7) n p))) 0 9 (nI (nu (σ 7) n (sk (σ 7) n p) 0).1)) 0 12 (2 : Int32)) 0 11 (nI (sk (σ 7) n p))) else (pr_up (pr_up (pr_up (pr_up σ 0 9 (nI (sk (σ 7) n p))) 0 10 (nI (sk (σ 7) n p))) 0 9 (nI (nu (σ 7) n (sk (σ 7) n p) 0).1)) 3 pl ((nu (σ 7) n (sk (σ 7) n p) 0).2.toInt32))
theorem fr_m_rd {σ : pr_I} {n p pl : Nat} {lo hi : Int32} {o : Nat} (hms : ∀ m ∈ ([0, 3] : List Nat), o ≠ m) : m_rd σ n p pl lo hi o = σ o := by
  simp only [List.mem_cons, List.not_mem_nil, or_false, forall_eq_or_imp, forall_eq] at hms
  unfold m_rd
  split
  · rw [pr_up_ne (by omega), pr_up_ne (by omega), pr_up_ne (by omega), pr_up_ne (by omega)]
  · split
    · rw [pr_up_ne (by omega), pr_up_ne (by omega), pr_up_ne (by omega), pr_up_ne (by omega), pr_up_ne (by omega)]
    · rw [pr_up_ne (by omega), pr_up_ne (by omega), pr_up_ne (by omega), pr_up_ne (by omega)]
theorem m_rd_1 {σ : pr_I} {n p pl : Nat} {lo hi : Int32} (c : ¬ m_rd_r σ n p pl lo hi = 0) : m_rd σ n p pl lo hi = (pr_up (pr_up (pr_up (pr_up σ 0 9 (nI (sk (σ 7) n p))) 0 10 (nI (sk (σ 7) n p))) 0 9 (nI (nu (σ 7) n (sk (σ 7) n p) 0).1)) 3 pl ((nu (σ 7) n (sk (σ 7) n p) 0).2.toInt32)) ∧ isd (σ 7) n (sk (σ 7) n p) ∧ ¬ m_in_r σ (nu (σ 7) n (sk (σ 7) n p) 0).2 lo.toInt64 hi.toInt64 = 0 := by
  unfold m_rd_r at c
  unfold m_rd
  by_cases c1 : idg (σ 7) n (sk (σ 7) n p) = 0
  · rw [if_pos c1] at c; exact absurd rfl c
  · rw [if_neg c1] at c ⊢
    by_cases c2 : m_in_r σ (nu (σ 7) n (sk (σ 7) n p) 0).2 lo.toInt64 hi.toInt64 = 0
    · rw [if_pos c2] at c; exact absurd rfl c
    · rw [if_neg c2]; exact ⟨rfl, idg_t c1, c2⟩
