theorem nb_ite {c : Prop} [Decidable c] {a b : Int32} (ha : a = 0 ∨ a = 1) (hb : b = 0 ∨ b = 1) : (if c then a else b) = 0 ∨ (if c then a else b) = 1 := by by_cases q : c <;> simp only [q, if_true, if_false] <;> assumption
noncomputable def m_in_r (σ : pr_I) (a : Int64) (b : Int64) (c : Int64) : Int32 := (if (lg_cmp a b) < 0 then (0 : Int32) else (if 0 < (lg_cmp a c) then (0 : Int32) else (1 : Int32)))
noncomputable def m_has_r (σ : pr_I) (s : Int32) (k : Int32) : Int32 := (if ((s >>> (k &&& 31)) &&& (1 : Int32)) = (1 : Int32) then (1 : Int32) else (0 : Int32))
noncomputable def m_ti_r (σ : pr_I) (b : Int32) (c : Int32) : Int32 := (if (σ 0 6) = 0 then (if b = 0 then (if (σ 0 6) = 0 then (0 : Int32) else (1 : Int32)) else (if c = 0 then (0 : Int32) else (1 : Int32))) else (if (σ 0 6) = 0 then (0 : Int32) else (1 : Int32)))
noncomputable def m_ti (σ : pr_I) (b : Int32) (c : Int32) : pr_I := (if (σ 0 6) = 0 then (if b = 0 then σ else (pr_up σ 0 6 c)) else σ)
theorem fr_m_ti {σ : pr_I} {b : Int32} {c : Int32} {o : Nat} (hms : ∀ m ∈ ([0] : List Nat), o ≠ m) : m_ti σ b c o = σ o := by
  unfold m_ti
  simp only [List.mem_cons, List.not_mem_nil, or_false, forall_eq_or_imp, forall_eq] at hms
  by_cases c_4 : (σ 0 6) = 0
  · refine (congrFun (if_pos c_4) o).trans ?_
    by_cases c_8 : b = 0
    · refine (congrFun (if_pos c_8) o).trans ?_
      rfl
    · refine (congrFun (if_neg c_8) o).trans ?_
      rw [pr_up_ne (by omega)]
  · refine (congrFun (if_neg c_4) o).trans ?_
    rfl

noncomputable def m_av_r (σ : pr_I) (n : Nat) (lk : Nat) : Int32 := ((σ 1 (96 + 7 * lk + 2)) - (m_prom_r σ n (nI lk)))
noncomputable def m_ax_r (σ : pr_I) (n : Nat) (x : Int32) : Int32 := ((σ 1 (96 + 7 * x.toNatClampNeg + 2)) - (m_prom_r σ n x))
noncomputable def m_up_it4 (σ : pr_I) (nl : Nat) : Nat → Int32
  | 0 => (0 : Int32)
  | k + 1 => ((m_up_it4 σ nl k) ||| ((σ 1 (96 + 7 * k + 5)) <<< ((nI k) &&& 31)))
noncomputable def m_up_r (σ : pr_I) (nl : Nat) : Int32 := (m_up_it4 σ nl nl)
noncomputable def m_lw_it4 (σ : pr_I) (n : Nat) (nl : Nat) (u : Int32) : Nat → Int32
  | 0 => (0 : Int32)
  | k + 1 => ((m_lw_it4 σ n nl u k) ||| (if (σ 1 (96 + 7 * k + 5)) = (1 : Int32) then (if (m_av_r σ n k) < u then (0 : Int32) else ((1 : Int32) <<< ((nI k) &&& 31))) else (0 : Int32)))
noncomputable def m_lw_r (σ : pr_I) (n : Nat) (nl : Nat) (u : Int32) : Int32 := (m_lw_it4 σ n nl u nl)
theorem cpr_step {f h : Nat → Int32} {I : pr_I} {b k : Nat} : pr_up (pr_row I b (cp_row f h k)) b k (f k) = pr_row I b (cp_row f h (k + 1)) := by
  funext a j
  unfold pr_up pr_row cp_row
  by_cases ha : a = b
  · subst ha
    by_cases hj : j = k
    · subst hj; simp
    · have : (j < k + 1) ↔ (j < k) := by omega
      simp [hj, this]
  · simp [ha]
theorem cpr_zero {f h : Nat → Int32} : cp_row f h 0 = h := by funext j; simp [cp_row]
def bg_row (h : Nat → Int32) : Nat → Int32 := fun j => if j = 5 then 80 else if j = 4 then 50 else if j = 3 then 3 else if j = 2 then 5 else if j = 1 then 20 else if j < 5384 then 0 else h j
theorem bg_eq {I : pr_I} {a : Nat} : pr_up (pr_up (pr_up (pr_up (pr_up (pr_row I a (fl_row 0 (I a) 5384)) a 1 20) a 2 5) a 3 3) a 4 50) a 5 80 = pr_row I a (bg_row (I a)) := by
  funext b j
  unfold pr_up pr_row fl_row bg_row
  by_cases hb : b = a
  · subst hb
    simp only [true_and, if_true]
  · simp [hb]