/-! READING: ends of links, numbers, statements -/
noncomputable def m_re_r (σ : pr_I) (n : Nat) (p : Nat) (fn : Nat) (pl : Nat) (y : Int32) : Int32 := (if (il (σ 7) n (sk (σ 7) n p)) = 0 then (0 : Int32) else (if (nmd (σ 3) (σ 7) (sk (σ 7) n p) ((we (σ 7) n (sk (σ 7) n p)) - (sk (σ 7) n p)) fn) = ((-1) : Int32) then (0 : Int32) else (if (nmd (σ 3) (σ 7) (sk (σ 7) n p) ((we (σ 7) n (sk (σ 7) n p)) - (sk (σ 7) n p)) fn) = y then (0 : Int32) else (1 : Int32))))
noncomputable def m_re (σ : pr_I) (n : Nat) (p : Nat) (fn : Nat) (pl : Nat) (y : Int32) : pr_I := (if (il (σ 7) n (sk (σ 7) n p)) = 0 then (pr_up (pr_up (pr_up (pr_up σ 0 9 (nI (sk (σ 7) n p))) 0 10 (nI (sk (σ 7) n p))) 0 12 (1 : Int32)) 0 11 (nI (sk (σ 7) n p))) else (if (nmd (σ 3) (σ 7) (sk (σ 7) n p) ((we (σ 7) n (sk (σ 7) n p)) - (sk (σ 7) n p)) fn) = ((-1) : Int32) then (pr_up (pr_up (pr_up (pr_up σ 0 9 (nI (sk (σ 7) n p))) 0 10 (nI (sk (σ 7) n p))) 0 12 (3 : Int32)) 0 11 (nI (sk (σ 7) n p))) else (if (nmd (σ 3) (σ 7) (sk (σ 7) n p) ((we (σ 7) n (sk (σ 7) n p)) - (sk (σ 7) n p)) fn) = y then (pr_up (pr_up (pr_up (pr_up σ 0 9 (nI (sk (σ 7) n p))) 0 10 (nI (sk (σ 7) n p))) 0 12 (3 : Int32)) 0 11 (nI (sk (σ 7) n p))) else (pr_up (pr_up (pr_up (pr_up σ 0 9 (nI (sk (σ 7) n p))) 0 10 (nI (sk (σ 7) n p))) 3 pl (nmd (σ 3) (σ 7) (sk (σ 7) n p) ((we (σ 7) n (sk (σ 7) n p)) - (sk (σ 7) n p)) fn)) 0 9 (nI (we (σ 7) n (sk (σ 7) n p)))))))
set_option maxRecDepth 100000 in
set_option maxHeartbeats 400000 in
theorem c_m_re {g : pr_C} {l : Launch} (hl : l.stackTraces = false) {T : pr_T} {I : pr_I} {L : pr_L} {m : Nat} {σ : pr_I} {n : Nat} {p : Nat} {fn : Nat} {pl : Nat} {y : Int32} (hm : pr_Mo T m) (hn : σ 0 8 = nI n) (hn7 : n ≤ 700) (hp : σ 0 9 = nI p) (hpn : p ≤ n) (h12 : σ 0 12 = 0) (hfn : σ 3 6 = nI fn) (hfn12 : fn ≤ 12) (hpl : pl < 5384) : pr_M g l 6 0 0 mX8_readEnd [.ref m, .int (nI pl), .int y] T (rg_put I m 16 σ) L (pr_R (some (.int (m_re_r σ n p fn pl y))) T (rg_put I m 16 (m_re σ n p fn pl y)) L) pr_no := by
  refine pr_ofG (by decide) rfl hl (Nat.le_of_ble_eq_true rfl) (fun X hA hX hXn hXt => ?_)
  subst hX
  show pr_G g X mX8_readEnd.2.2.1 _ 0 0 0 [.ref m, .int (nI pl), .int y, .null] [] T (rg_put I m 16 σ) L
  have hs1 := sk_le (b := σ 7) hpn
  have hw1 := we_le (b := σ 7) hs1.2
  refine pr_aload_n hA dX8_readEnd_0 rfl ?_
  refine pr_callVi hA [] (c_seeE (m := m) (σ := σ) (n := n) (p := p) (b := (σ 7)) (pr_hl hA) hm hn (by omega) hp (by omega) rfl) v_X8_116 (mo_k0 hm) (by decide) rfl rfl rfl (by decide) (Nat.zero_le _) (Nat.zero_le _) rfl (Nat.le_of_ble_eq_true rfl) dX8_readEnd_1 ?_
  refine pr_pop hA dX8_readEnd_4 rfl ?_
  refine pr_aload_n hA dX8_readEnd_5 rfl ?_
  refine pr_aload_n hA dX8_readEnd_6 rfl ?_
  refine pr_getE (v := (nI (sk (σ 7) n p))) hA f_X8_91 rfl (mo_k0 hm) ((rg_val0 (by decide)).trans pr_upe) dX8_readEnd_7 ?_
  refine pr_callVi hA [.int (nI (sk (σ 7) n p))] (c_ilE (m := m) (σ := (pr_up (pr_up σ 0 9 (nI (sk (σ 7) n p))) 0 10 (nI (sk (σ 7) n p)))) (n := n) (k := (sk (σ 7) n p)) (b := (σ 7)) (pr_hl hA) hm ((pr_upk (by decide)).trans ((pr_upk (by decide)).trans hn)) (by omega) (by omega) ((pr_up_ne (by decide)).trans (pr_up_ne (by decide)))) v_X8_100 (mo_k0 hm) (by decide) rfl rfl rfl (by decide) (Nat.zero_le _) (Nat.zero_le _) rfl (Nat.le_of_ble_eq_true rfl) dX8_readEnd_10 ?_
  refine pr_if_ne hA 22 dX8_readEnd_13 (by decide) (fun c_13 => ?_) (fun c_13 => ?_)
  · refine pr_aload_n hA dX8_readEnd_22 rfl ?_
    refine pr_callVi hA [] (c_namedE (m := m) (σ := (pr_up (pr_up σ 0 9 (nI (sk (σ 7) n p))) 0 10 (nI (sk (σ 7) n p)))) (n := n) (q := (sk (σ 7) n p)) (fn := fn) (r := (σ 3)) (b := (σ 7)) (pr_hl hA) hm ((pr_upk (by decide)).trans ((pr_upk (by decide)).trans hn)) (by omega) pr_upe (by omega) ((pr_upv (by decide)).trans ((pr_upv (by decide)).trans hfn)) (by omega) ((pr_up_ne (by decide)).trans (pr_up_ne (by decide))) ((pr_up_ne (by decide)).trans (pr_up_ne (by decide)))) v_X8_143 (mo_k0 hm) (by decide) rfl rfl rfl (by decide) (Nat.zero_le _) (Nat.zero_le _) rfl (Nat.le_of_ble_eq_true rfl) dX8_readEnd_23 ?_
    refine pr_istore_n (ls' := [_, _, _, _]) hA dX8_readEnd_26 (by decide) rfl ?_
    refine pr_iload_n hA dX8_readEnd_27 rfl ?_
    refine pr_iconst hA ((-1)) dX8_readEnd_28 (by decide) ?_
    refine pr_icmp_eq hA 37 dX8_readEnd_29 (by decide) (fun c_29 => ?_) (fun c_29 => ?_)
    · refine pr_aload_n hA dX8_readEnd_37 rfl ?_
      refine pr_iconst hA (3) dX8_readEnd_38 (by decide) ?_
      refine pr_callVi hA [.int (3 : Int32)] (c_fails (m := m) (σ := (pr_up (pr_up σ 0 9 (nI (sk (σ 7) n p))) 0 10 (nI (sk (σ 7) n p)))) (q := (sk (σ 7) n p)) (e := (3 : Int32)) (pr_hl hA) hm pr_upe ((pr_upk (by decide)).trans ((pr_upk (by decide)).trans h12))) v_X8_122 (mo_k0 hm) (by decide) rfl rfl rfl (by decide) (Nat.zero_le _) (Nat.zero_le _) rfl (Nat.le_of_ble_eq_true rfl) dX8_readEnd_39 ?_
      exact pr_ireturn hA rfl (pr_nb (by repeat (first | exact Or.inl rfl | exact Or.inr rfl | refine nb_ite ?_ ?_))) (Nat.zero_le _) (Nat.zero_le _) dX8_readEnd_42 ⟨(by simp only [m_re_r, if_neg c_13, if_pos c_29]), rfl, (by simp only [m_re, if_neg c_13, if_pos c_29]), rfl⟩
    · refine pr_iload_n hA dX8_readEnd_32 rfl ?_
      refine pr_iload_n hA dX8_readEnd_33 rfl ?_
      refine pr_icmp_ne hA 43 dX8_readEnd_34 (by decide) (fun c_34 => ?_) (fun c_34 => ?_)
      · refine pr_aload_n hA dX8_readEnd_43 rfl ?_
        refine pr_getR hA f_X8_16 rfl (mo_k0 hm) (mo_f0_2 hm) dX8_readEnd_44 ?_
        refine pr_iload_n hA dX8_readEnd_47 rfl ?_
        refine pr_iload_n hA dX8_readEnd_48 rfl ?_
        refine pr_iastM (I' := (rg_put I m 16 (pr_up (pr_up (pr_up σ 0 9 (nI (sk (σ 7) n p))) 0 10 (nI (sk (σ 7) n p))) 3 pl (nmd (σ 3) (σ 7) (sk (σ 7) n p) ((we (σ 7) n (sk (σ 7) n p)) - (sk (σ 7) n p)) fn)))) hA (mo_k3 hm) (by omega) (by omega) (rg_up (by decide)) dX8_readEnd_49 ?_
        refine pr_aload_n hA dX8_readEnd_50 rfl ?_
        refine pr_callVi hA [] (c_passesE (m := m) (σ := (pr_up (pr_up (pr_up σ 0 9 (nI (sk (σ 7) n p))) 0 10 (nI (sk (σ 7) n p))) 3 pl (nmd (σ 3) (σ 7) (sk (σ 7) n p) ((we (σ 7) n (sk (σ 7) n p)) - (sk (σ 7) n p)) fn))) (n := n) (q := (sk (σ 7) n p)) (b := (σ 7)) (pr_hl hA) hm ((pr_upv (by decide)).trans ((pr_upk (by decide)).trans ((pr_upk (by decide)).trans hn))) (by omega) ((pr_upv (by decide)).trans pr_upe) (by omega) ((pr_up_ne (by decide)).trans ((pr_up_ne (by decide)).trans (pr_up_ne (by decide))))) v_X8_139 (mo_k0 hm) (by decide) rfl rfl rfl (by decide) (Nat.zero_le _) (Nat.zero_le _) rfl (Nat.le_of_ble_eq_true rfl) dX8_readEnd_51 ?_
        exact pr_ireturn hA rfl (pr_nb (by repeat (first | exact Or.inl rfl | exact Or.inr rfl | refine nb_ite ?_ ?_))) (Nat.zero_le _) (Nat.zero_le _) dX8_readEnd_54 ⟨(by simp only [m_re_r, if_neg c_13, if_neg c_29, if_neg c_34]), rfl, (by simp only [m_re, if_neg c_13, if_neg c_29, if_neg c_34]), rfl⟩
      · refine pr_aload_n hA dX8_readEnd_37 rfl ?_
        refine pr_iconst hA (3) dX8_readEnd_38 (by decide) ?_
        refine pr_callVi hA [.int (3 : Int32)] (c_fails (m := m) (σ := (pr_up (pr_up σ 0 9 (nI (sk (σ 7) n p))) 0 10 (nI (sk (σ 7) n p)))) (q := (sk (σ 7) n p)) (e := (3 : Int32)) (pr_hl hA) hm pr_upe ((pr_upk (by decide)).trans ((pr_upk (by decide)).trans h12))) v_X8_122 (mo_k0 hm) (by decide) rfl rfl rfl (by decide) (Nat.zero_le _) (Nat.zero_le _) rfl (Nat.le_of_ble_eq_true rfl) dX8_readEnd_39 ?_
        exact pr_ireturn hA rfl (pr_nb (by repeat (first | exact Or.inl rfl | exact Or.inr rfl | refine nb_ite ?_ ?_))) (Nat.zero_le _) (Nat.zero_le _) dX8_readEnd_42 ⟨(by simp only [m_re_r, if_neg c_13, if_neg c_29, if_pos c_34]), rfl, (by simp only [m_re, if_neg c_13, if_neg c_29, if_pos c_34]), rfl⟩
  · refine pr_aload_n hA dX8_readEnd_16 rfl ?_
    refine pr_iconst hA (1) dX8_readEnd_17 (by decide) ?_
    refine pr_callVi hA [.int (1 : Int32)] (c_fails (m := m) (σ := (pr_up (pr_up σ 0 9 (nI (sk (σ 7) n p))) 0 10 (nI (sk (σ 7) n p)))) (q := (sk (σ 7) n p)) (e := (1 : Int32)) (pr_hl hA) hm pr_upe ((pr_upk (by decide)).trans ((pr_upk (by decide)).trans h12))) v_X8_122 (mo_k0 hm) (by decide) rfl rfl rfl (by decide) (Nat.zero_le _) (Nat.zero_le _) rfl (Nat.le_of_ble_eq_true rfl) dX8_readEnd_18 ?_
    exact pr_ireturn hA rfl (pr_nb (by repeat (first | exact Or.inl rfl | exact Or.inr rfl | refine nb_ite ?_ ?_))) (Nat.zero_le _) (Nat.zero_le _) dX8_readEnd_21 ⟨(by simp only [m_re_r, if_pos c_13]), rfl, (by simp only [m_re, if_pos c_13]), rfl⟩

theorem fr_m_re {σ : pr_I} {n : Nat} {p : Nat} {fn : Nat} {pl : Nat} {y : Int32} {o : Nat} (hms : ∀ m ∈ ([0, 3] : List Nat), o ≠ m) : m_re σ n p fn pl y o = σ o := by
  unfold m_re
  simp only [List.mem_cons, List.not_mem_nil, or_false, forall_eq_or_imp, forall_eq] at hms
  by_cases c_13 : (il (σ 7) n (sk (σ 7) n p)) = 0
  · refine (congrFun (if_pos c_13) o).trans ?_
    rw [pr_up_ne (by omega), pr_up_ne (by omega), pr_up_ne (by omega), pr_up_ne (by omega)]
  · refine (congrFun (if_neg c_13) o).trans ?_
    by_cases c_29 : (nmd (σ 3) (σ 7) (sk (σ 7) n p) ((we (σ 7) n (sk (σ 7) n p)) - (sk (σ 7) n p)) fn) = ((-1) : Int32)
    · refine (congrFun (if_pos c_29) o).trans ?_
      rw [pr_up_ne (by omega), pr_up_ne (by omega), pr_up_ne (by omega), pr_up_ne (by omega)]
    · refine (congrFun (if_neg c_29) o).trans ?_
      by_cases c_34 : (nmd (σ 3) (σ 7) (sk (σ 7) n p) ((we (σ 7) n (sk (σ 7) n p)) - (sk (σ 7) n p)) fn) = y
      · refine (congrFun (if_pos c_34) o).trans ?_
        rw [pr_up_ne (by omega), pr_up_ne (by omega), pr_up_ne (by omega), pr_up_ne (by omega)]
      · refine (congrFun (if_neg c_34) o).trans ?_
        rw [pr_up_ne (by omega), pr_up_ne (by omega), pr_up_ne (by omega), pr_up_ne (by omega)]

theorem m_re_1 {σ : pr_I} {n p fn pl : Nat} {y : Int32} (c : ¬ m_re_r σ n p fn pl y = 0) : m_re σ n p fn pl y = (pr_up (pr_up (pr_up (pr_up σ 0 9 (nI (sk (σ 7) n p))) 0 10 (nI (sk (σ 7) n p))) 3 pl (nmd (σ 3) (σ 7) (sk (σ 7) n p) ((we (σ 7) n (sk (σ 7) n p)) - (sk (σ 7) n p)) fn)) 0 9 (nI (we (σ 7) n (sk (σ 7) n p)))) ∧ isl (σ 7) n (sk (σ 7) n p) ∧ ¬ (nmd (σ 3) (σ 7) (sk (σ 7) n p) ((we (σ 7) n (sk (σ 7) n p)) - (sk (σ 7) n p)) fn) = -1 ∧ ¬ (nmd (σ 3) (σ 7) (sk (σ 7) n p) ((we (σ 7) n (sk (σ 7) n p)) - (sk (σ 7) n p)) fn) = y := by
  unfold m_re_r at c
  unfold m_re
  by_cases c1 : il (σ 7) n (sk (σ 7) n p) = 0
  · rw [if_pos c1] at c; exact absurd rfl c
  · rw [if_neg c1] at c ⊢
    by_cases c2 : (nmd (σ 3) (σ 7) (sk (σ 7) n p) ((we (σ 7) n (sk (σ 7) n p)) - (sk (σ 7) n p)) fn) = -1
    · rw [if_pos c2] at c; exact absurd rfl c
    · rw [if_neg c2] at c ⊢
      by_cases c3 : (nmd (σ 3) (σ 7) (sk (σ 7) n p) ((we (σ 7) n (sk (σ 7) n p)) - (sk (σ 7) n p)) fn) = y
      · rw [if_pos c3] at c; exact absurd rfl c
      · rw [if_neg c3]; exact ⟨rfl, il_t c1, c2, c3⟩
noncomputable def m_rd_r (σ : pr_I) (n p pl : Nat) (lo hi : Int32) : Int32 := if idg (σ 7) n (sk (σ 7) n p) = 0 then (0 : Int32) else if m_in_r σ (nu (σ 7) n (sk (σ 7) n p) 0).2 lo.toInt64 hi.toInt64 = 0 then (0 : Int32) else (1 : Int32)
noncomputable def m_rd (σ : pr_I) (n p pl : Nat) (lo hi : Int32) : pr_I := if idg (σ 7) n (sk (σ 7) n p) = 0 then (pr_up (pr_up (pr_up (pr_up σ 0 9 (nI (sk (σ 7) n p))) 0 10 (nI (sk (σ 7) n p))) 0 12 (1 : Int32)) 0 11 (nI (sk (σ 7) n p))) else if m_in_r σ (nu (σ 7) n (sk (σ 7) n p) 0).2 lo.toInt64 hi.toInt64 = 0 then (pr_up (pr_up (pr_up (pr_up (pr_up σ 0 9 (nI (sk (σ 7) n p))) 0 10 (nI (sk (σ 7) n p))) 0 9 (nI (nu (σ 7) n (sk (σ 7) n p) 0).1)) 0 12 (2 : Int32)) 0 11 (nI (sk (σ 7) n p))) else (pr_up (pr_up (pr_up (pr_up σ 0 9 (nI (sk (σ 7) n p))) 0 10 (nI (sk (σ 7) n p))) 0 9 (nI (nu (σ 7) n (sk (σ 7) n p) 0).1)) 3 pl ((nu (σ 7) n (sk (σ 7) n p) 0).2.toInt32))
set_option maxRecDepth 100000 in
set_option maxHeartbeats 400000 in
theorem c_m_rd {g : pr_C} {l : Launch} (hl : l.stackTraces = false) {T : pr_T} {I : pr_I} {L : pr_L} {m : Nat} {σ : pr_I} (hm : pr_Mo T m) {n : Nat} (hn : σ 0 8 = nI n) (hn7 : n ≤ 700) {p : Nat} (hp : σ 0 9 = nI p) (hpn : p ≤ n) (h12 : σ 0 12 = 0) {pl : Nat} (hpl : pl < 5384) {lo hi : Int32} : pr_M g l 4 0 0 mX8_reads [.ref m, .int (nI pl), .int lo, .int hi] T (rg_put I m 16 σ) L (pr_R (some (.int (m_rd_r σ n p pl lo hi))) T (rg_put I m 16 (m_rd σ n p pl lo hi)) L) pr_no := by
  refine pr_ofG (by decide) rfl hl (Nat.le_of_ble_eq_true rfl) (fun X hA hX hXn hXt => ?_)
  subst hX
  show pr_G g X mX8_reads.2.2.1 _ 0 0 0 [.ref m, .int (nI pl), .int lo, .int hi, .null, .null] [] T (rg_put I m 16 σ) L
  have hs1 := sk_le (b := σ 7) hpn
  have hw1 := we_le (b := σ 7) hs1.2
  refine pr_aload_n hA dX8_reads_0 rfl ?_
  refine pr_callVi hA [] (c_seeE (m := m) (σ := σ) (n := n) (p := p) (b := (σ 7)) (pr_hl hA) hm hn (by omega) hp (by omega) rfl) v_X8_116 (mo_k0 hm) (by decide) rfl rfl rfl (by decide) (Nat.zero_le _) (Nat.zero_le _) rfl (Nat.le_of_ble_eq_true rfl) dX8_reads_1 ?_
  refine pr_pop hA dX8_reads_4 rfl ?_
  refine pr_aload_n hA dX8_reads_5 rfl ?_
  refine pr_aload_n hA dX8_reads_6 rfl ?_
  refine pr_getE (v := (nI (sk (σ 7) n p))) hA f_X8_88 rfl (mo_k0 hm) ((rg_val0 (by decide)).trans ((pr_upk (by decide)).trans pr_upe)) dX8_reads_7 ?_
  refine pr_callVi hA [.int (nI (sk (σ 7) n p))] (c_idE (m := m) (σ := (pr_up (pr_up σ 0 9 (nI (sk (σ 7) n p))) 0 10 (nI (sk (σ 7) n p)))) (n := n) (k := (sk (σ 7) n p)) (b := (σ 7)) (pr_hl hA) hm ((pr_upk (by decide)).trans ((pr_upk (by decide)).trans hn)) (by omega) (by omega) ((pr_up_ne (by decide)).trans (pr_up_ne (by decide)))) v_X8_119 (mo_k0 hm) (by decide) rfl rfl rfl (by decide) (Nat.zero_le _) (Nat.zero_le _) rfl (Nat.le_of_ble_eq_true rfl) dX8_reads_10 ?_
  refine pr_if_ne hA 22 dX8_reads_13 (by decide) (fun c_13 => ?_) (fun c_13 => ?_)
  · refine pr_lconst hA 0 dX8_reads_22 (by decide) ?_
    refine pr_lstore (ls' := [_, _, _, _, _, _]) hA dX8_reads_23 (by decide) rfl ?_
    have lp25 : ∀ (j x : Nat) (v : Int64), n - x = j → x ≤ n → nu (σ 7) n x v = (nu (σ 7) n (sk (σ 7) n p) 0) → pr_G g X mX8_reads.2.2.1 (pr_MQ g X (pr_R (some (.int (m_rd_r σ n p pl lo hi))) T (rg_put I m 16 (m_rd σ n p pl lo hi)) L) pr_no 0 0) 0 0 25 [.ref m, .int (nI pl), .int lo, .int hi, .long v, .null] [] T (rg_put I m 16 (pr_up (pr_up (pr_up σ 0 9 (nI (sk (σ 7) n p))) 0 10 (nI (sk (σ 7) n p))) 0 9 (nI x))) L := by
      intro j
      induction j using Nat.strongRecOn with | ind j ih =>
      intro x v hj hxn hw
      refine pr_aload_n hA dX8_reads_25 rfl ?_
      refine pr_aload_n hA dX8_reads_26 rfl ?_
      refine pr_getE (v := (nI x)) hA f_X8_88 rfl (mo_k0 hm) ((rg_val0 (by decide)).trans pr_upe) dX8_reads_27 ?_
      refine pr_callVi hA [.int (nI x)] (c_idE (m := m) (σ := (pr_up (pr_up (pr_up σ 0 9 (nI (sk (σ 7) n p))) 0 10 (nI (sk (σ 7) n p))) 0 9 (nI x))) (n := n) (k := x) (b := (σ 7)) (pr_hl hA) hm ((pr_upk (by decide)).trans ((pr_upk (by decide)).trans ((pr_upk (by decide)).trans hn))) (by omega) (by omega) ((pr_up_ne (by decide)).trans ((pr_up_ne (by decide)).trans (pr_up_ne (by decide))))) v_X8_119 (mo_k0 hm) (by decide) rfl rfl rfl (by decide) (Nat.zero_le _) (Nat.zero_le _) rfl (Nat.le_of_ble_eq_true rfl) dX8_reads_30 ?_
      refine pr_if_eq hA 77 dX8_reads_33 (by decide) (fun c_33 => ?_) (fun c_33 => ?_)
      · rw [nu_stop (idg_f c_33)] at hw
        refine pr_lload hA dX8_reads_77 rfl ?_
        refine pr_iload_n hA dX8_reads_79 rfl ?_
        refine pr_i2l hA dX8_reads_80 ?_
        refine pr_iload_n hA dX8_reads_81 rfl ?_
        refine pr_i2l hA dX8_reads_82 ?_
        refine pr_callSi hA [.long v, .long ((lo).toInt64), .long ((hi).toInt64)] (c_m_in (m := m) (σ := (pr_up (pr_up (pr_up σ 0 9 (nI (sk (σ 7) n p))) 0 10 (nI (sk (σ 7) n p))) 0 9 (nI x))) (a := v) (b := (lo).toInt64) (c := (hi).toInt64) (pr_hl hA) hm) s_X8_80 rfl (by decide) (Nat.zero_le _) (Nat.zero_le _) rfl (Nat.le_of_ble_eq_true rfl) dX8_reads_83 ?_
        rw [show (m_in_r (pr_up (pr_up (pr_up σ 0 9 (nI (sk (σ 7) n p))) 0 10 (nI (sk (σ 7) n p))) 0 9 (nI x)) v ((lo).toInt64) ((hi).toInt64)) = (m_in_r σ v lo.toInt64 hi.toInt64) from rfl]
        refine pr_if_ne hA 95 dX8_reads_86 (by decide) (fun c_86 => ?_) (fun c_86 => ?_)
        · refine pr_aload_n hA dX8_reads_95 rfl ?_
          refine pr_getR hA f_X8_16 rfl (mo_k0 hm) (mo_f0_2 hm) dX8_reads_96 ?_
          refine pr_iload_n hA dX8_reads_99 rfl ?_
          refine pr_lload hA dX8_reads_100 rfl ?_
          refine pr_l2i hA dX8_reads_102 ?_
          refine pr_iastM (I' := (rg_put I m 16 (pr_up (pr_up (pr_up (pr_up σ 0 9 (nI (sk (σ 7) n p))) 0 10 (nI (sk (σ 7) n p))) 0 9 (nI x)) 3 pl ((v).toInt32)))) hA (mo_k3 hm) (by omega) (by omega) (rg_up (by decide)) dX8_reads_103 ?_
          refine pr_iconst hA (1) dX8_reads_104 (by decide) ?_
          exact pr_ireturn hA rfl (pr_nb (by repeat (first | exact Or.inl rfl | exact Or.inr rfl | refine nb_ite ?_ ?_))) (Nat.zero_le _) (Nat.zero_le _) dX8_reads_105 ⟨by unfold m_rd_r; rw [← hw]; simp only [if_neg c_13, if_neg c_86], rfl, by unfold m_rd; rw [← hw]; simp only [if_neg c_13, if_neg c_86], rfl⟩
        · refine pr_aload_n hA dX8_reads_89 rfl ?_
          refine pr_iconst hA (2) dX8_reads_90 (by decide) ?_
          refine pr_callVi hA [.int (2 : Int32)] (c_fails (m := m) (σ := (pr_up (pr_up (pr_up σ 0 9 (nI (sk (σ 7) n p))) 0 10 (nI (sk (σ 7) n p))) 0 9 (nI x))) (q := (sk (σ 7) n p)) (e := (2 : Int32)) (pr_hl hA) hm ((pr_upk (by decide)).trans pr_upe) ((pr_upk (by decide)).trans ((pr_upk (by decide)).trans ((pr_upk (by decide)).trans h12)))) v_X8_122 (mo_k0 hm) (by decide) rfl rfl rfl (by decide) (Nat.zero_le _) (Nat.zero_le _) rfl (Nat.le_of_ble_eq_true rfl) dX8_reads_91 ?_
          exact pr_ireturn hA rfl (pr_nb (by repeat (first | exact Or.inl rfl | exact Or.inr rfl | refine nb_ite ?_ ?_))) (Nat.zero_le _) (Nat.zero_le _) dX8_reads_94 ⟨by unfold m_rd_r; rw [← hw]; simp only [if_neg c_13, if_pos c_86], rfl, by unfold m_rd; rw [← hw]; simp only [if_neg c_13, if_pos c_86], rfl⟩
      · refine pr_ldc2 hA kK_X8_125 dX8_reads_36 ?_
        refine pr_ldc2 hA kK_X8_127 dX8_reads_39 ?_
        refine pr_lload hA dX8_reads_42 rfl ?_
        refine pr_lmul hA dX8_reads_44 ?_
        refine pr_aload_n hA dX8_reads_45 rfl ?_
        refine pr_aload_n hA dX8_reads_46 rfl ?_
        refine pr_getE (v := (nI x)) hA f_X8_88 rfl (mo_k0 hm) ((rg_val0 (by decide)).trans pr_upe) dX8_reads_47 ?_
        refine pr_callVi hA [.int (nI x)] (c_baE (m := m) (σ := (pr_up (pr_up (pr_up σ 0 9 (nI (sk (σ 7) n p))) 0 10 (nI (sk (σ 7) n p))) 0 9 (nI x))) (n := n) (k := x) (b := (σ 7)) (pr_hl hA) hm ((pr_upk (by decide)).trans ((pr_upk (by decide)).trans ((pr_upk (by decide)).trans hn))) (by omega) (by omega) ((pr_up_ne (by decide)).trans ((pr_up_ne (by decide)).trans (pr_up_ne (by decide))))) v_X8_72 (mo_k0 hm) (by decide) rfl rfl rfl (by decide) (Nat.zero_le _) (Nat.zero_le _) rfl (Nat.le_of_ble_eq_true rfl) dX8_reads_50 ?_
        refine pr_i2l hA dX8_reads_53 ?_
        refine pr_ladd hA dX8_reads_54 ?_
        refine pr_ldc2 hA kK_X8_84 dX8_reads_55 ?_
        refine pr_lsub hA dX8_reads_58 ?_
        refine pr_mminl hA rfl ⟨kM_X8_129, kT_J9_min_f86c9, kZ_J9, kO_J9_min_f86c9⟩ (by decide) (Nat.zero_le _) (Nat.zero_le _) (Nat.le_of_ble_eq_true rfl) dX8_reads_59 ?_
        refine pr_lstore (ls' := [_, _, _, _, _, _]) hA dX8_reads_62 (by decide) rfl ?_
        refine pr_aload_n hA dX8_reads_64 rfl ?_
        refine pr_dup hA dX8_reads_65 rfl ?_
        refine pr_getE (v := (nI x)) hA f_X8_88 rfl (mo_k0 hm) ((rg_val0 (by decide)).trans pr_upe) dX8_reads_66 ?_
        refine pr_iconst hA (1) dX8_reads_69 (by decide) ?_
        refine pr_iaddE (v := nI (x + 1)) hA (nI_1 _) dX8_reads_70 ?_
        refine pr_putE (I' := (rg_put I m 16 (pr_up (pr_up (pr_up (pr_up σ 0 9 (nI (sk (σ 7) n p))) 0 10 (nI (sk (σ 7) n p))) 0 9 (nI x)) 0 9 (nI (x + 1))))) hA f_X8_88 rfl (mo_k0 hm) (rg_up0 (by decide)) dX8_reads_71 ?_
        refine pr_goto hA 25 dX8_reads_74 (by decide) ?_
        exact (by have hb := ih (n - (x + 1)) (by have := (idg_t c_33).1; omega) (x + 1) _ rfl (by have := (idg_t c_33).1; omega) ((nu_step (idg_t c_33)).symm.trans hw); rw [← pr_up_two (σ := (pr_up (pr_up σ 0 9 (nI (sk (σ 7) n p))) 0 10 (nI (sk (σ 7) n p)))) (o := 0) (k := 9) (u := nI x) (v := nI (x + 1))] at hb; exact hb)
    exact (by have h0 := lp25 (n - (sk (σ 7) n p)) (sk (σ 7) n p) 0 rfl hs1.2 rfl; rw [pr_up_id ((pr_upk (by decide)).trans pr_upe)] at h0; exact h0)
  · refine pr_aload_n hA dX8_reads_16 rfl ?_
    refine pr_iconst hA (1) dX8_reads_17 (by decide) ?_
    refine pr_callVi hA [.int (1 : Int32)] (c_fails (m := m) (σ := (pr_up (pr_up σ 0 9 (nI (sk (σ 7) n p))) 0 10 (nI (sk (σ 7) n p)))) (q := (sk (σ 7) n p)) (e := (1 : Int32)) (pr_hl hA) hm pr_upe ((pr_upk (by decide)).trans ((pr_upk (by decide)).trans h12))) v_X8_122 (mo_k0 hm) (by decide) rfl rfl rfl (by decide) (Nat.zero_le _) (Nat.zero_le _) rfl (Nat.le_of_ble_eq_true rfl) dX8_reads_18 ?_
    exact pr_ireturn hA rfl (pr_nb (by repeat (first | exact Or.inl rfl | exact Or.inr rfl | refine nb_ite ?_ ?_))) (Nat.zero_le _) (Nat.zero_le _) dX8_reads_21 ⟨by simp only [m_rd_r, if_pos c_13], rfl, by simp only [m_rd, if_pos c_13], rfl⟩

theorem fr_m_rd {σ : pr_I} {n p pl : Nat} {lo hi : Int32} {o : Nat} (hms : ∀ m ∈ ([0, 3] : List Nat), o ≠ m) : m_rd σ n p pl lo hi o = σ o := by
  simp only [List.mem_cons, List.not_mem_nil, or_false, forall_eq_or_imp, forall_eq] at hms
  unfold m_rd
  split
  · rw [pr_up_ne (by omega), pr_up_ne (by omega), pr_up_ne (by omega), pr_up_ne (by omega)]
  · split
    · rw [pr_up_ne (by omega), pr_up_ne (by omega), pr_up_ne (by omega), pr_up_ne (by omega), pr_up_ne (by omega)]
    · rw [pr_up_ne (by omega), pr_up_ne (by omega), pr_up_ne (by omega), pr_up_ne (by omega)]
theorem m_rd_1 {σ : pr_I} {n p pl : Nat} {lo hi : Int32} (c : ¬ m_rd_r σ n p pl lo hi = 0) : m_rd σ n p pl lo hi = (pr_up (pr_up (pr_up (pr_up σ 0 9 (nI (sk (σ 7) n p))) 0 10 (nI (sk (σ 7) n p))) 0 9 (nI (nu (σ 7) n (sk (σ 7) n p) 0).1)) 3 pl ((nu (σ 7) n (sk (σ 7) n p) 0).2.toInt32)) ∧ isd (σ 7) n (sk (σ 7) n p) ∧ ¬ m_in_r σ (nu (σ 7) n (sk (σ 7) n p) 0).2 lo.toInt64 hi.toInt64 = 0 := by
  unfold m_rd_r at c
  unfold m_rd
  by_cases c1 : idg (σ 7) n (sk (σ 7) n p) = 0
  · rw [if_pos c1] at c; exact absurd rfl c
  · rw [if_neg c1] at c ⊢
    by_cases c2 : m_in_r σ (nu (σ 7) n (sk (σ 7) n p) 0).2 lo.toInt64 hi.toInt64 = 0
    · rw [if_pos c2] at c; exact absurd rfl c
    · rw [if_neg c2]; exact ⟨rfl, idg_t c1, c2⟩
