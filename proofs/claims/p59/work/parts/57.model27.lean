/-! READING: a statement, the whole text -/
theorem nb_rn {σ : pr_I} {n q fn : Nat} : m_rn_r σ n q fn = 0 ∨ m_rn_r σ n q fn = 1 := by
  unfold m_rn_r
  (repeat' split) <;> first | exact Or.inl rfl | exact Or.inr rfl
theorem nb_rl {σ : pr_I} {n q fn fl : Nat} : m_rl_r σ n q fn fl = 0 ∨ m_rl_r σ n q fn fl = 1 := by
  unfold m_rl_r
  exact nb_ite (Or.inl rfl) (nb_ite (Or.inl rfl) (nb_ite (Or.inl rfl) (nb_ite (Or.inl rfl) (nb_ite (Or.inl rfl) (nb_ite (Or.inl rfl) (Or.inr rfl))))))
theorem nb_rg {σ : pr_I} {n q j : Nat} : m_rg_r σ n q j = 0 ∨ m_rg_r σ n q j = 1 := by
  unfold m_rg_r
  exact nb_ite (Or.inl rfl) (Or.inr rfl)
noncomputable def m_rs_r (σ : pr_I) (n : Nat) (p : Nat) (fn : Nat) (fl : Nat) : Int32 := (if (iw (σ 7) n (sk (σ 7) n p) 0) = 0 then (if (iw (σ 7) n (sk (σ 7) n p) 1) = 0 then (if (iw (σ 7) n (sk (σ 7) n p) 2) = 0 then (if (iw (σ 7) n (sk (σ 7) n p) 3) = 0 then (if (iw (σ 7) n (sk (σ 7) n p) 4) = 0 then (if (iw (σ 7) n (sk (σ 7) n p) 5) = 0 then (if (iw (σ 7) n (sk (σ 7) n p) 6) = 0 then (0 : Int32) else (m_rg_r (pr_up (pr_up σ 0 9 (nI (sk (σ 7) n p))) 0 10 (nI (sk (σ 7) n p))) n (sk (σ 7) n p) 5)) else (m_rg_r (pr_up (pr_up σ 0 9 (nI (sk (σ 7) n p))) 0 10 (nI (sk (σ 7) n p))) n (sk (σ 7) n p) 4)) else (m_rg_r (pr_up (pr_up σ 0 9 (nI (sk (σ 7) n p))) 0 10 (nI (sk (σ 7) n p))) n (sk (σ 7) n p) 3)) else (m_rg_r (pr_up (pr_up σ 0 9 (nI (sk (σ 7) n p))) 0 10 (nI (sk (σ 7) n p))) n (sk (σ 7) n p) 2)) else (m_rg_r (pr_up (pr_up σ 0 9 (nI (sk (σ 7) n p))) 0 10 (nI (sk (σ 7) n p))) n (sk (σ 7) n p) 1)) else (m_rl_r (pr_up (pr_up σ 0 9 (nI (sk (σ 7) n p))) 0 10 (nI (sk (σ 7) n p))) n (sk (σ 7) n p) fn fl)) else (m_rn_r (pr_up (pr_up σ 0 9 (nI (sk (σ 7) n p))) 0 10 (nI (sk (σ 7) n p))) n (sk (σ 7) n p) fn))
noncomputable def m_rs (σ : pr_I) (n : Nat) (p : Nat) (fn : Nat) (fl : Nat) : pr_I := (if (iw (σ 7) n (sk (σ 7) n p) 0) = 0 then (if (iw (σ 7) n (sk (σ 7) n p) 1) = 0 then (if (iw (σ 7) n (sk (σ 7) n p) 2) = 0 then (if (iw (σ 7) n (sk (σ 7) n p) 3) = 0 then (if (iw (σ 7) n (sk (σ 7) n p) 4) = 0 then (if (iw (σ 7) n (sk (σ 7) n p) 5) = 0 then (if (iw (σ 7) n (sk (σ 7) n p) 6) = 0 then (pr_up (pr_up (pr_up (pr_up σ 0 9 (nI (sk (σ 7) n p))) 0 10 (nI (sk (σ 7) n p))) 0 12 (1 : Int32)) 0 11 (nI (sk (σ 7) n p))) else (m_rg (pr_up (pr_up σ 0 9 (nI (sk (σ 7) n p))) 0 10 (nI (sk (σ 7) n p))) n (sk (σ 7) n p) 5)) else (m_rg (pr_up (pr_up σ 0 9 (nI (sk (σ 7) n p))) 0 10 (nI (sk (σ 7) n p))) n (sk (σ 7) n p) 4)) else (m_rg (pr_up (pr_up σ 0 9 (nI (sk (σ 7) n p))) 0 10 (nI (sk (σ 7) n p))) n (sk (σ 7) n p) 3)) else (m_rg (pr_up (pr_up σ 0 9 (nI (sk (σ 7) n p))) 0 10 (nI (sk (σ 7) n p))) n (sk (σ 7) n p) 2)) else (m_rg (pr_up (pr_up σ 0 9 (nI (sk (σ 7) n p))) 0 10 (nI (sk (σ 7) n p))) n (sk (σ 7) n p) 1)) else (m_rl (pr_up (pr_up σ 0 9 (nI (sk (σ 7) n p))) 0 10 (nI (sk (σ 7) n p))) n (sk (σ 7) n p) fn fl)) else (m_rn (pr_up (pr_up σ 0 9 (nI (sk (σ 7) n p))) 0 10 (nI (sk (σ 7) n p))) n (sk (σ 7) n p) fn))
theorem fr_m_rs {σ : pr_I} {n : Nat} {p : Nat} {fn : Nat} {fl : Nat} {o : Nat} (hms : ∀ m ∈ ([0, 3] : List Nat), o ≠ m) : m_rs σ n p fn fl o = σ o := by
  unfold m_rs
  simp only [List.mem_cons, List.not_mem_nil, or_false, forall_eq_or_imp, forall_eq] at hms
  by_cases c_11 : (iw (σ 7) n (sk (σ 7) n p) 0) = 0
  · refine (congrFun (if_pos c_11) o).trans ?_
    by_cases c_25 : (iw (σ 7) n (sk (σ 7) n p) 1) = 0
    · refine (congrFun (if_pos c_25) o).trans ?_
      by_cases c_39 : (iw (σ 7) n (sk (σ 7) n p) 2) = 0
      · refine (congrFun (if_pos c_39) o).trans ?_
        by_cases c_54 : (iw (σ 7) n (sk (σ 7) n p) 3) = 0
        · refine (congrFun (if_pos c_54) o).trans ?_
          by_cases c_69 : (iw (σ 7) n (sk (σ 7) n p) 4) = 0
          · refine (congrFun (if_pos c_69) o).trans ?_
            by_cases c_84 : (iw (σ 7) n (sk (σ 7) n p) 5) = 0
            · refine (congrFun (if_pos c_84) o).trans ?_
              by_cases c_99 : (iw (σ 7) n (sk (σ 7) n p) 6) = 0
              · refine (congrFun (if_pos c_99) o).trans ?_
                rw [pr_up_ne (by omega), pr_up_ne (by omega), pr_up_ne (by omega), pr_up_ne (by omega)]
              · refine (congrFun (if_neg c_99) o).trans ?_
                rw [fr_m_rg (by simp only [List.mem_cons, List.not_mem_nil, or_false, forall_eq_or_imp, forall_eq]; omega), pr_up_ne (by omega), pr_up_ne (by omega)]
            · refine (congrFun (if_neg c_84) o).trans ?_
              rw [fr_m_rg (by simp only [List.mem_cons, List.not_mem_nil, or_false, forall_eq_or_imp, forall_eq]; omega), pr_up_ne (by omega), pr_up_ne (by omega)]
          · refine (congrFun (if_neg c_69) o).trans ?_
            rw [fr_m_rg (by simp only [List.mem_cons, List.not_mem_nil, or_false, forall_eq_or_imp, forall_eq]; omega), pr_up_ne (by omega), pr_up_ne (by omega)]
        · refine (congrFun (if_neg c_54) o).trans ?_
          rw [fr_m_rg (by simp only [List.mem_cons, List.not_mem_nil, or_false, forall_eq_or_imp, forall_eq]; omega), pr_up_ne (by omega), pr_up_ne (by omega)]
      · refine (congrFun (if_neg c_39) o).trans ?_
        rw [fr_m_rg (by simp only [List.mem_cons, List.not_mem_nil, or_false, forall_eq_or_imp, forall_eq]; omega), pr_up_ne (by omega), pr_up_ne (by omega)]
    · refine (congrFun (if_neg c_25) o).trans ?_
      rw [fr_m_rl (by simp only [List.mem_cons, List.not_mem_nil, or_false, forall_eq_or_imp, forall_eq]; omega), pr_up_ne (by omega), pr_up_ne (by omega)]
  · refine (congrFun (if_neg c_11) o).trans ?_
    rw [fr_m_rn (by simp only [List.mem_cons, List.not_mem_nil, or_false, forall_eq_or_imp, forall_eq]; omega), pr_up_ne (by omega), pr_up_ne (by omega)]

theorem m_rs_I {σ : pr_I} {n p fn fl : Nat} (h : rk n σ) (hn7 : n ≤ 700) (hpn : p ≤ n) (hfn12 : fn ≤ 12) (hfl24 : fl ≤ 24) (c : ¬ m_rs_r σ n p fn fl = 0) : rk n (m_rs σ n p fn fl) ∧ ∃ p', p ≤ p' ∧ p' ≤ n ∧ (m_rs σ n p fn fl) 0 9 = nI p' := by
  have hs1 := sk_le (b := σ 7) hpn
  have h1 : rk n (pr_up (pr_up σ 0 9 (nI (sk (σ 7) n p))) 0 10 (nI (sk (σ 7) n p))) := rk.b (rk.p h)
  have w : ∀ {S : pr_I}, (rk n S ∧ ∃ p', (sk (σ 7) n p) ≤ p' ∧ p' ≤ n ∧ S 0 9 = nI p') → rk n S ∧ ∃ p', p ≤ p' ∧ p' ≤ n ∧ S 0 9 = nI p' := fun ⟨a, p', b, d, e⟩ => ⟨a, p', by omega, d, e⟩
  unfold m_rs_r at c
  unfold m_rs
  by_cases c0 : (iw (σ 7) n (sk (σ 7) n p) 0) = 0
  rotate_left
  · rw [if_neg c0] at c ⊢; exact w (m_rn_I h1 hn7 hs1.2 hfn12 c)
  rw [if_pos c0] at c ⊢
  by_cases c1 : (iw (σ 7) n (sk (σ 7) n p) 1) = 0
  rotate_left
  · rw [if_neg c1] at c ⊢; exact w (m_rl_I h1 hs1.2 hfn12 hfl24 c)
  rw [if_pos c1] at c ⊢
  by_cases c2 : (iw (σ 7) n (sk (σ 7) n p) 2) = 0
  rotate_left
  · rw [if_neg c2] at c ⊢; exact w (m_rg_I h1 hs1.2 (by decide) (by decide) c)
  rw [if_pos c2] at c ⊢
  by_cases c3 : (iw (σ 7) n (sk (σ 7) n p) 3) = 0
  rotate_left
  · rw [if_neg c3] at c ⊢; exact w (m_rg_I h1 hs1.2 (by decide) (by decide) c)
  rw [if_pos c3] at c ⊢
  by_cases c4 : (iw (σ 7) n (sk (σ 7) n p) 4) = 0
  rotate_left
  · rw [if_neg c4] at c ⊢; exact w (m_rg_I h1 hs1.2 (by decide) (by decide) c)
  rw [if_pos c4] at c ⊢
  by_cases c5 : (iw (σ 7) n (sk (σ 7) n p) 5) = 0
  rotate_left
  · rw [if_neg c5] at c ⊢; exact w (m_rg_I h1 hs1.2 (by decide) (by decide) c)
  rw [if_pos c5] at c ⊢
  by_cases c6 : (iw (σ 7) n (sk (σ 7) n p) 6) = 0
  rotate_left
  · rw [if_neg c6] at c ⊢; exact w (m_rg_I h1 hs1.2 (by decide) (by decide) c)
  rw [if_pos c6] at c ⊢
  exact absurd rfl c
noncomputable def m_pt (σ : pr_I) : Nat := (σ 0 9).toNatClampNeg
def fnn (σ : pr_I) : Nat := (σ 3 6).toNatClampNeg
def fln (σ : pr_I) : Nat := (σ 3 7).toNatClampNeg
theorem m_pt_eq {σ : pr_I} {p : Nat} (h : σ 0 9 = nI p) (hp : p ≤ 700) : m_pt σ = p := by unfold m_pt; rw [h, nI_clamp (by omega)]
theorem mI_fnn {σ : pr_I} (h : mI σ) : σ 3 6 = nI (fnn σ) := vp_nI (h 3 6 13 rfl) (by decide)
theorem mI_fnn12 {σ : pr_I} (h : mI σ) : fnn σ ≤ 12 := Nat.le_of_lt_succ (vp_in_lt (h 3 6 13 rfl))
theorem mI_fln {σ : pr_I} (h : mI σ) : σ 3 7 = nI (fln σ) := vp_nI (h 3 7 25 rfl) (by decide)
theorem mI_fln24 {σ : pr_I} (h : mI σ) : fln σ ≤ 24 := Nat.le_of_lt_succ (vp_in_lt (h 3 7 25 rfl))
noncomputable def ra_f (b : Nat → Int32) (n : Nat) : Nat → pr_I → pr_I × Int32
  | 0, σ1 => (σ1, 0)
  | j + 1, σ1 => if bt b n (sk b n (m_pt σ1)) = (59 : Int32) then (if m_rs_r (pr_up (pr_up (pr_up σ1 0 9 (nI (sk b n (m_pt σ1)))) 0 10 (nI (sk b n (m_pt σ1)))) 0 9 (nI (sk b n (m_pt σ1) + 1))) n (sk b n (m_pt σ1) + 1) (fnn σ1) (fln σ1) = 0 then (m_rs (pr_up (pr_up (pr_up σ1 0 9 (nI (sk b n (m_pt σ1)))) 0 10 (nI (sk b n (m_pt σ1)))) 0 9 (nI (sk b n (m_pt σ1) + 1))) n (sk b n (m_pt σ1) + 1) (fnn σ1) (fln σ1), 0) else ra_f b n j (m_rs (pr_up (pr_up (pr_up σ1 0 9 (nI (sk b n (m_pt σ1)))) 0 10 (nI (sk b n (m_pt σ1)))) 0 9 (nI (sk b n (m_pt σ1) + 1))) n (sk b n (m_pt σ1) + 1) (fnn σ1) (fln σ1)))
    else (if bt b n (sk b n (sk b n (m_pt σ1))) = (-1 : Int32) then ((pr_up (pr_up (pr_up (pr_up σ1 0 9 (nI (sk b n (m_pt σ1)))) 0 10 (nI (sk b n (m_pt σ1)))) 0 9 (nI (sk b n (sk b n (m_pt σ1))))) 0 10 (nI (sk b n (sk b n (m_pt σ1))))), 1) else (pr_up (pr_up (pr_up (pr_up (pr_up (pr_up σ1 0 9 (nI (sk b n (m_pt σ1)))) 0 10 (nI (sk b n (m_pt σ1)))) 0 9 (nI (sk b n (sk b n (m_pt σ1))))) 0 10 (nI (sk b n (sk b n (m_pt σ1))))) 0 12 (1 : Int32)) 0 11 (nI (sk b n (sk b n (m_pt σ1)))), 0))
noncomputable def ra_R (σ : pr_I) (n : Nat) : pr_I × Int32 := if m_rs_r σ n (m_pt σ) (fnn σ) (fln σ) = 0 then (m_rs σ n (m_pt σ) (fnn σ) (fln σ), 0) else ra_f (σ 7) n (n + 1) (m_rs σ n (m_pt σ) (fnn σ) (fln σ))
noncomputable def m_ra (σ : pr_I) (n : Nat) : pr_I := (ra_R σ n).1
noncomputable def m_ra_r (σ : pr_I) (n : Nat) : Int32 := (ra_R σ n).2
theorem bt_59 {b : Nat → Int32} {n k : Nat} (h : bt b n k = 59) : k < n := bt_lt (by rw [h]; decide)