/-! READING: a statement, the whole text -/
theorem nb_rn {σ : pr_I} {n q fn : Nat} : m_rn_r σ n q fn = 0 ∨ m_rn_r σ n q fn = 1 := by
  unfold m_rn_r
  (repeat' split) <;> first | exact Or.inl rfl | exact Or.inr rfl
theorem nb_rl {σ : pr_I} {n q fn fl : Nat} : m_rl_r σ n q fn fl = 0 ∨ m_rl_r σ n q fn fl = 1 := by
  unfold m_rl_r
  exact nb_ite (Or.inl rfl) (nb_ite (Or.inl rfl) (nb_ite (Or.inl rfl) (nb_ite (Or.inl rfl) (nb_ite (Or.inl rfl) (nb_ite (Or.inl rfl) (Or.inr rfl))))))
theorem nb_rg {σ : pr_I} {n q j : Nat} : m_rg_r σ n q j = 0 ∨ m_rg_r σ n q j = 1 := by
  unfold m_rg_r
  exact nb_ite (Or.inl rfl) (Or.inr rfl)
noncomputable def m_rs_r (σ : pr_I) (n : Nat) (p : Nat) (fn : Nat) (fl : Nat) : Int32 := (if (iw (σ 7) n (sk (σ 7) n p) 0) = 0 then (if (iw (σ 7) n (sk (σ 7) n p) 1) = 0 then (if (iw (σ 7) n (sk (σ 7) n p) 2) = 0 then (if (iw (σ 7) n (sk (σ 7) n p) 3) = 0 then (if (iw (σ 7) n (sk (σ 7) n p) 4) = 0 then (if (iw (σ 7) n (sk (σ 7) n p) 5) = 0 then (if (iw (σ 7) n (sk (σ 7) n p) 6) = 0 then (0 : Int32) else (m_rg_r (pr_up (pr_up σ 0 9 (nI (sk (σ 7) n p))) 0 10 (nI (sk (σ 7) n p))) n (sk (σ 7) n p) 5)) else (m_rg_r (pr_up (pr_up σ 0 9 (nI (sk (σ 7) n p))) 0 10 (nI (sk (σ 7) n p))) n (sk (σ 7) n p) 4)) else (m_rg_r (pr_up (pr_up σ 0 9 (nI (sk (σ 7) n p))) 0 10 (nI (sk (σ 7) n p))) n (sk (σ 7) n p) 3)) else (m_rg_r (pr_up (pr_up σ 0 9 (nI (sk (σ 7) n p))) 0 10 (nI (sk (σ 7) n p))) n (sk (σ 7) n p) 2)) else (m_rg_r (pr_up (pr_up σ 0 9 (nI (sk (σ 7) n p))) 0 10 (nI (sk (σ 7) n p))) n (sk (σ 7) n p) 1)) else (m_rl_r (pr_up (pr_up σ 0 9 (nI (sk (σ 7) n p))) 0 10 (nI (sk (σ 7) n p))) n (sk (σ 7) n p) fn fl)) else (m_rn_r (pr_up (pr_up σ 0 9 (nI (sk (σ 7) n p))) 0 10 (nI (sk (σ 7) n p))) n (sk (σ 7) n p) fn))
noncomputable def m_rs (σ : pr_I) (n : Nat) (p : Nat) (fn : Nat) (fl : Nat) : pr_I := (if (iw (σ 7) n (sk (σ 7) n p) 0) = 0 then (if (iw (σ 7) n (sk (σ 7) n p) 1) = 0 then (if (iw (σ 7) n (sk (σ 7) n p) 2) = 0 then (if (iw (σ 7) n (sk (σ 7) n p) 3) = 0 then (if (iw (σ 7) n (sk (σ 7) n p) 4) = 0 then (if (iw (σ 7) n (sk (σ 7) n p) 5) = 0 then (if (iw (σ 7) n (sk (σ 7) n p) 6) = 0 then (pr_up (pr_up (pr_up (pr_up σ 0 9 (nI (sk (σ 7) n p))) 0 10 (nI (sk (σ 7) n p))) 0 12 (1 : Int32)) 0 11 (nI (sk (σ 7) n p))) else (m_rg (pr_up (pr_up σ 0 9 (nI (sk (σ 7) n p))) 0 10 (nI (sk (σ 7) n p))) n (sk (σ 7) n p) 5)) else (m_rg (pr_up (pr_up σ 0 9 (nI (sk (σ 7) n p))) 0 10 (nI (sk (σ 7) n p))) n (sk (σ 7) n p) 4)) else (m_rg (pr_up (pr_up σ 0 9 (nI (sk (σ 7) n p))) 0 10 (nI (sk (σ 7) n p))) n (sk (σ 7) n p) 3)) else (m_rg (pr_up (pr_up σ 0 9 (nI (sk (σ 7) n p))) 0 10 (nI (sk (σ 7) n p))) n (sk (σ 7) n p) 2)) else (m_rg (pr_up (pr_up σ 0 9 (nI (sk (σ 7) n p))) 0 10 (nI (sk (σ 7) n p))) n (sk (σ 7) n p) 1)) else (m_rl (pr_up (pr_up σ 0 9 (nI (sk (σ 7) n p))) 0 10 (nI (sk (σ 7) n p))) n (sk (σ 7) n p) fn fl)) else (m_rn (pr_up (pr_up σ 0 9 (nI (sk (σ 7) n p))) 0 10 (nI (sk (σ 7) n p))) n (sk (σ 7) n p) fn))
set_option maxRecDepth 100000 in
set_option maxHeartbeats 400000 in
theorem c_m_rs {g : pr_C} {l : Launch} (hl : l.stackTraces = false) {T : pr_T} {I : pr_I} {L : pr_L} {m : Nat} {σ : pr_I} {n : Nat} {p : Nat} {fn : Nat} {fl : Nat} (hm : pr_Mo T m) (hn : σ 0 8 = nI n) (hn7 : n ≤ 700) (hp : σ 0 9 = nI p) (hpn : p ≤ n) (h12 : σ 0 12 = 0) (hfn : σ 3 6 = nI fn) (hfn12 : fn ≤ 12) (hfl : σ 3 7 = nI fl) (hfl24 : fl ≤ 24) : pr_M g l 10 0 0 mX8_readStatement [.ref m] T (rg_put I m 16 σ) L (pr_R (some (.int (m_rs_r σ n p fn fl))) T (rg_put I m 16 (m_rs σ n p fn fl)) L) pr_no := by
  refine pr_ofG (by decide) rfl hl (Nat.le_of_ble_eq_true rfl) (fun X hA hX hXn hXt => ?_)
  subst hX
  show pr_G g X mX8_readStatement.2.2.1 _ 0 0 0 [.ref m] [] T (rg_put I m 16 σ) L
  have hs1 := sk_le (b := σ 7) hpn
  refine pr_aload_n hA dX8_readStatement_0 rfl ?_
  refine pr_callVi hA [] (c_seeE (m := m) (σ := σ) (n := n) (p := p) (b := (σ 7)) (pr_hl hA) hm hn (by omega) hp (by omega) rfl) v_X8_116 (mo_k0 hm) (by decide) rfl rfl rfl (by decide) (Nat.zero_le _) (Nat.zero_le _) rfl (Nat.le_of_ble_eq_true rfl) dX8_readStatement_1 ?_
  refine pr_pop hA dX8_readStatement_4 rfl ?_
  refine pr_aload_n hA dX8_readStatement_5 rfl ?_
  refine pr_lds (k := 0) (tx := "node") hA (by decide +kernel) dX8_readStatement_6 ?_
  refine pr_callVi hA [.ref (pr_ak g 0)] (c_iwE (m := m) (σ := (pr_up (pr_up σ 0 9 (nI (sk (σ 7) n p))) 0 10 (nI (sk (σ 7) n p)))) (n := n) (q := (sk (σ 7) n p)) (k := 0) (b := (σ 7)) (pr_hl hA) hm ((pr_upk (by decide)).trans ((pr_upk (by decide)).trans hn)) (by omega) pr_upe (by omega) (by omega) ((pr_up_ne (by decide)).trans (pr_up_ne (by decide)))) v_X8_162 (mo_k0 hm) (by decide) rfl rfl rfl (by decide) (Nat.zero_le _) (Nat.zero_le _) rfl (Nat.le_of_ble_eq_true rfl) dX8_readStatement_8 ?_
  refine pr_if_eq hA 19 dX8_readStatement_11 (by decide) (fun c_11 => ?_) (fun c_11 => ?_)
  · refine pr_aload_n hA dX8_readStatement_19 rfl ?_
    refine pr_lds (k := 1) (tx := "link") hA (by decide +kernel) dX8_readStatement_20 ?_
    refine pr_callVi hA [.ref (pr_ak g 1)] (c_iwE (m := m) (σ := (pr_up (pr_up σ 0 9 (nI (sk (σ 7) n p))) 0 10 (nI (sk (σ 7) n p)))) (n := n) (q := (sk (σ 7) n p)) (k := 1) (b := (σ 7)) (pr_hl hA) hm ((pr_upk (by decide)).trans ((pr_upk (by decide)).trans hn)) (by omega) pr_upe (by omega) (by omega) ((pr_up_ne (by decide)).trans (pr_up_ne (by decide)))) v_X8_162 (mo_k0 hm) (by decide) rfl rfl rfl (by decide) (Nat.zero_le _) (Nat.zero_le _) rfl (Nat.le_of_ble_eq_true rfl) dX8_readStatement_22 ?_
    refine pr_if_eq hA 33 dX8_readStatement_25 (by decide) (fun c_25 => ?_) (fun c_25 => ?_)
    · refine pr_aload_n hA dX8_readStatement_33 rfl ?_
      refine pr_lds (k := 2) (tx := "hold") hA (by decide +kernel) dX8_readStatement_34 ?_
      refine pr_callVi hA [.ref (pr_ak g 2)] (c_iwE (m := m) (σ := (pr_up (pr_up σ 0 9 (nI (sk (σ 7) n p))) 0 10 (nI (sk (σ 7) n p)))) (n := n) (q := (sk (σ 7) n p)) (k := 2) (b := (σ 7)) (pr_hl hA) hm ((pr_upk (by decide)).trans ((pr_upk (by decide)).trans hn)) (by omega) pr_upe (by omega) (by omega) ((pr_up_ne (by decide)).trans (pr_up_ne (by decide)))) v_X8_162 (mo_k0 hm) (by decide) rfl rfl rfl (by decide) (Nat.zero_le _) (Nat.zero_le _) rfl (Nat.le_of_ble_eq_true rfl) dX8_readStatement_36 ?_
      refine pr_if_eq hA 48 dX8_readStatement_39 (by decide) (fun c_39 => ?_) (fun c_39 => ?_)
      · refine pr_aload_n hA dX8_readStatement_48 rfl ?_
        refine pr_lds (k := 3) (tx := "retry") hA (by decide +kernel) dX8_readStatement_49 ?_
        refine pr_callVi hA [.ref (pr_ak g 3)] (c_iwE (m := m) (σ := (pr_up (pr_up σ 0 9 (nI (sk (σ 7) n p))) 0 10 (nI (sk (σ 7) n p)))) (n := n) (q := (sk (σ 7) n p)) (k := 3) (b := (σ 7)) (pr_hl hA) hm ((pr_upk (by decide)).trans ((pr_upk (by decide)).trans hn)) (by omega) pr_upe (by omega) (by omega) ((pr_up_ne (by decide)).trans (pr_up_ne (by decide)))) v_X8_162 (mo_k0 hm) (by decide) rfl rfl rfl (by decide) (Nat.zero_le _) (Nat.zero_le _) rfl (Nat.le_of_ble_eq_true rfl) dX8_readStatement_51 ?_
        refine pr_if_eq hA 63 dX8_readStatement_54 (by decide) (fun c_54 => ?_) (fun c_54 => ?_)
        · refine pr_aload_n hA dX8_readStatement_63 rfl ?_
          refine pr_lds (k := 4) (tx := "tries") hA (by decide +kernel) dX8_readStatement_64 ?_
          refine pr_callVi hA [.ref (pr_ak g 4)] (c_iwE (m := m) (σ := (pr_up (pr_up σ 0 9 (nI (sk (σ 7) n p))) 0 10 (nI (sk (σ 7) n p)))) (n := n) (q := (sk (σ 7) n p)) (k := 4) (b := (σ 7)) (pr_hl hA) hm ((pr_upk (by decide)).trans ((pr_upk (by decide)).trans hn)) (by omega) pr_upe (by omega) (by omega) ((pr_up_ne (by decide)).trans (pr_up_ne (by decide)))) v_X8_162 (mo_k0 hm) (by decide) rfl rfl rfl (by decide) (Nat.zero_le _) (Nat.zero_le _) rfl (Nat.le_of_ble_eq_true rfl) dX8_readStatement_66 ?_
          refine pr_if_eq hA 78 dX8_readStatement_69 (by decide) (fun c_69 => ?_) (fun c_69 => ?_)
          · refine pr_aload_n hA dX8_readStatement_78 rfl ?_
            refine pr_lds (k := 5) (tx := "expire") hA (by decide +kernel) dX8_readStatement_79 ?_
            refine pr_callVi hA [.ref (pr_ak g 5)] (c_iwE (m := m) (σ := (pr_up (pr_up σ 0 9 (nI (sk (σ 7) n p))) 0 10 (nI (sk (σ 7) n p)))) (n := n) (q := (sk (σ 7) n p)) (k := 5) (b := (σ 7)) (pr_hl hA) hm ((pr_upk (by decide)).trans ((pr_upk (by decide)).trans hn)) (by omega) pr_upe (by omega) (by omega) ((pr_up_ne (by decide)).trans (pr_up_ne (by decide)))) v_X8_162 (mo_k0 hm) (by decide) rfl rfl rfl (by decide) (Nat.zero_le _) (Nat.zero_le _) rfl (Nat.le_of_ble_eq_true rfl) dX8_readStatement_81 ?_
            refine pr_if_eq hA 93 dX8_readStatement_84 (by decide) (fun c_84 => ?_) (fun c_84 => ?_)
            · refine pr_aload_n hA dX8_readStatement_93 rfl ?_
              refine pr_lds (k := 6) (tx := "cancel") hA (by decide +kernel) dX8_readStatement_94 ?_
              refine pr_callVi hA [.ref (pr_ak g 6)] (c_iwE (m := m) (σ := (pr_up (pr_up σ 0 9 (nI (sk (σ 7) n p))) 0 10 (nI (sk (σ 7) n p)))) (n := n) (q := (sk (σ 7) n p)) (k := 6) (b := (σ 7)) (pr_hl hA) hm ((pr_upk (by decide)).trans ((pr_upk (by decide)).trans hn)) (by omega) pr_upe (by omega) (by omega) ((pr_up_ne (by decide)).trans (pr_up_ne (by decide)))) v_X8_162 (mo_k0 hm) (by decide) rfl rfl rfl (by decide) (Nat.zero_le _) (Nat.zero_le _) rfl (Nat.le_of_ble_eq_true rfl) dX8_readStatement_96 ?_
              refine pr_if_eq hA 110 dX8_readStatement_99 (by decide) (fun c_99 => ?_) (fun c_99 => ?_)
              · refine pr_aload_n hA dX8_readStatement_110 rfl ?_
                refine pr_iconst hA (1) dX8_readStatement_111 (by decide) ?_
                refine pr_callVi hA [.int (1 : Int32)] (c_fails (m := m) (σ := (pr_up (pr_up σ 0 9 (nI (sk (σ 7) n p))) 0 10 (nI (sk (σ 7) n p)))) (q := (sk (σ 7) n p)) (e := (1 : Int32)) (pr_hl hA) hm pr_upe ((pr_upk (by decide)).trans ((pr_upk (by decide)).trans h12))) v_X8_122 (mo_k0 hm) (by decide) rfl rfl rfl (by decide) (Nat.zero_le _) (Nat.zero_le _) rfl (Nat.le_of_ble_eq_true rfl) dX8_readStatement_112 ?_
                exact pr_ireturn hA rfl (pr_nb (by first | exact nb_rn | exact nb_rl | exact nb_rg | exact Or.inl rfl | exact nb_ite (Or.inl rfl) nb_rg | exact nb_ite nb_rg (Or.inl rfl))) (Nat.zero_le _) (Nat.zero_le _) dX8_readStatement_115 ⟨(by simp only [m_rs_r, if_pos c_11, if_pos c_25, if_pos c_39, if_pos c_54, if_pos c_69, if_pos c_84, if_pos c_99]), rfl, (by simp only [m_rs, if_pos c_11, if_pos c_25, if_pos c_39, if_pos c_54, if_pos c_69, if_pos c_84, if_pos c_99]), rfl⟩
              · refine pr_aload_n hA dX8_readStatement_102 rfl ?_
                refine pr_iconst hA (nI 5) dX8_readStatement_103 (by decide) ?_
                refine pr_callVi hA [.int (nI 5)] (c_m_rg (m := m) (σ := (pr_up (pr_up σ 0 9 (nI (sk (σ 7) n p))) 0 10 (nI (sk (σ 7) n p)))) (n := n) (q := (sk (σ 7) n p)) (j := 5) (pr_hl hA) hm ((pr_upk (by decide)).trans ((pr_upk (by decide)).trans hn)) (by omega) pr_upe (by omega) ((pr_upk (by decide)).trans ((pr_upk (by decide)).trans h12)) (by omega) (by omega)) v_X8_176 (mo_k0 hm) (by decide) rfl rfl rfl (by decide) (Nat.zero_le _) (Nat.zero_le _) rfl (Nat.le_of_ble_eq_true rfl) dX8_readStatement_104 ?_
                refine pr_goto hA 115 dX8_readStatement_107 (by decide) ?_
                exact pr_ireturn hA rfl (pr_nb (by first | exact nb_rn | exact nb_rl | exact nb_rg | exact Or.inl rfl | exact nb_ite (Or.inl rfl) nb_rg | exact nb_ite nb_rg (Or.inl rfl))) (Nat.zero_le _) (Nat.zero_le _) dX8_readStatement_115 ⟨(by simp only [m_rs_r, if_pos c_11, if_pos c_25, if_pos c_39, if_pos c_54, if_pos c_69, if_pos c_84, if_neg c_99]), rfl, (by simp only [m_rs, if_pos c_11, if_pos c_25, if_pos c_39, if_pos c_54, if_pos c_69, if_pos c_84, if_neg c_99]), rfl⟩
            · refine pr_aload_n hA dX8_readStatement_87 rfl ?_
              refine pr_iconst hA (nI 4) dX8_readStatement_88 (by decide) ?_
              refine pr_callVi hA [.int (nI 4)] (c_m_rg (m := m) (σ := (pr_up (pr_up σ 0 9 (nI (sk (σ 7) n p))) 0 10 (nI (sk (σ 7) n p)))) (n := n) (q := (sk (σ 7) n p)) (j := 4) (pr_hl hA) hm ((pr_upk (by decide)).trans ((pr_upk (by decide)).trans hn)) (by omega) pr_upe (by omega) ((pr_upk (by decide)).trans ((pr_upk (by decide)).trans h12)) (by omega) (by omega)) v_X8_176 (mo_k0 hm) (by decide) rfl rfl rfl (by decide) (Nat.zero_le _) (Nat.zero_le _) rfl (Nat.le_of_ble_eq_true rfl) dX8_readStatement_89 ?_
              exact pr_ireturn hA rfl (pr_nb (by first | exact nb_rn | exact nb_rl | exact nb_rg | exact Or.inl rfl | exact nb_ite (Or.inl rfl) nb_rg | exact nb_ite nb_rg (Or.inl rfl))) (Nat.zero_le _) (Nat.zero_le _) dX8_readStatement_92 ⟨(by simp only [m_rs_r, if_pos c_11, if_pos c_25, if_pos c_39, if_pos c_54, if_pos c_69, if_neg c_84]), rfl, (by simp only [m_rs, if_pos c_11, if_pos c_25, if_pos c_39, if_pos c_54, if_pos c_69, if_neg c_84]), rfl⟩
          · refine pr_aload_n hA dX8_readStatement_72 rfl ?_
            refine pr_iconst hA (nI 3) dX8_readStatement_73 (by decide) ?_
            refine pr_callVi hA [.int (nI 3)] (c_m_rg (m := m) (σ := (pr_up (pr_up σ 0 9 (nI (sk (σ 7) n p))) 0 10 (nI (sk (σ 7) n p)))) (n := n) (q := (sk (σ 7) n p)) (j := 3) (pr_hl hA) hm ((pr_upk (by decide)).trans ((pr_upk (by decide)).trans hn)) (by omega) pr_upe (by omega) ((pr_upk (by decide)).trans ((pr_upk (by decide)).trans h12)) (by omega) (by omega)) v_X8_176 (mo_k0 hm) (by decide) rfl rfl rfl (by decide) (Nat.zero_le _) (Nat.zero_le _) rfl (Nat.le_of_ble_eq_true rfl) dX8_readStatement_74 ?_
            exact pr_ireturn hA rfl (pr_nb (by first | exact nb_rn | exact nb_rl | exact nb_rg | exact Or.inl rfl | exact nb_ite (Or.inl rfl) nb_rg | exact nb_ite nb_rg (Or.inl rfl))) (Nat.zero_le _) (Nat.zero_le _) dX8_readStatement_77 ⟨(by simp only [m_rs_r, if_pos c_11, if_pos c_25, if_pos c_39, if_pos c_54, if_neg c_69]), rfl, (by simp only [m_rs, if_pos c_11, if_pos c_25, if_pos c_39, if_pos c_54, if_neg c_69]), rfl⟩
        · refine pr_aload_n hA dX8_readStatement_57 rfl ?_
          refine pr_iconst hA (nI 2) dX8_readStatement_58 (by decide) ?_
          refine pr_callVi hA [.int (nI 2)] (c_m_rg (m := m) (σ := (pr_up (pr_up σ 0 9 (nI (sk (σ 7) n p))) 0 10 (nI (sk (σ 7) n p)))) (n := n) (q := (sk (σ 7) n p)) (j := 2) (pr_hl hA) hm ((pr_upk (by decide)).trans ((pr_upk (by decide)).trans hn)) (by omega) pr_upe (by omega) ((pr_upk (by decide)).trans ((pr_upk (by decide)).trans h12)) (by omega) (by omega)) v_X8_176 (mo_k0 hm) (by decide) rfl rfl rfl (by decide) (Nat.zero_le _) (Nat.zero_le _) rfl (Nat.le_of_ble_eq_true rfl) dX8_readStatement_59 ?_
          exact pr_ireturn hA rfl (pr_nb (by first | exact nb_rn | exact nb_rl | exact nb_rg | exact Or.inl rfl | exact nb_ite (Or.inl rfl) nb_rg | exact nb_ite nb_rg (Or.inl rfl))) (Nat.zero_le _) (Nat.zero_le _) dX8_readStatement_62 ⟨(by simp only [m_rs_r, if_pos c_11, if_pos c_25, if_pos c_39, if_neg c_54]), rfl, (by simp only [m_rs, if_pos c_11, if_pos c_25, if_pos c_39, if_neg c_54]), rfl⟩
      · refine pr_aload_n hA dX8_readStatement_42 rfl ?_
        refine pr_iconst hA (nI 1) dX8_readStatement_43 (by decide) ?_
        refine pr_callVi hA [.int (nI 1)] (c_m_rg (m := m) (σ := (pr_up (pr_up σ 0 9 (nI (sk (σ 7) n p))) 0 10 (nI (sk (σ 7) n p)))) (n := n) (q := (sk (σ 7) n p)) (j := 1) (pr_hl hA) hm ((pr_upk (by decide)).trans ((pr_upk (by decide)).trans hn)) (by omega) pr_upe (by omega) ((pr_upk (by decide)).trans ((pr_upk (by decide)).trans h12)) (by omega) (by omega)) v_X8_176 (mo_k0 hm) (by decide) rfl rfl rfl (by decide) (Nat.zero_le _) (Nat.zero_le _) rfl (Nat.le_of_ble_eq_true rfl) dX8_readStatement_44 ?_
        exact pr_ireturn hA rfl (pr_nb (by first | exact nb_rn | exact nb_rl | exact nb_rg | exact Or.inl rfl | exact nb_ite (Or.inl rfl) nb_rg | exact nb_ite nb_rg (Or.inl rfl))) (Nat.zero_le _) (Nat.zero_le _) dX8_readStatement_47 ⟨(by simp only [m_rs_r, if_pos c_11, if_pos c_25, if_neg c_39]), rfl, (by simp only [m_rs, if_pos c_11, if_pos c_25, if_neg c_39]), rfl⟩
    · refine pr_aload_n hA dX8_readStatement_28 rfl ?_
      refine pr_callVi hA [] (c_m_rl (m := m) (σ := (pr_up (pr_up σ 0 9 (nI (sk (σ 7) n p))) 0 10 (nI (sk (σ 7) n p)))) (n := n) (q := (sk (σ 7) n p)) (fn := fn) (fl := fl) (pr_hl hA) hm ((pr_upk (by decide)).trans ((pr_upk (by decide)).trans hn)) (by omega) pr_upe (by omega) ((pr_upk (by decide)).trans ((pr_upk (by decide)).trans h12)) ((pr_upv (by decide)).trans ((pr_upv (by decide)).trans hfn)) (by omega) ((pr_upv (by decide)).trans ((pr_upv (by decide)).trans hfl)) (by omega) ) v_X8_171 (mo_k0 hm) (by decide) rfl rfl rfl (by decide) (Nat.zero_le _) (Nat.zero_le _) rfl (Nat.le_of_ble_eq_true rfl) dX8_readStatement_29 ?_
      exact pr_ireturn hA rfl (pr_nb (by first | exact nb_rn | exact nb_rl | exact nb_rg | exact Or.inl rfl | exact nb_ite (Or.inl rfl) nb_rg | exact nb_ite nb_rg (Or.inl rfl))) (Nat.zero_le _) (Nat.zero_le _) dX8_readStatement_32 ⟨(by simp only [m_rs_r, if_pos c_11, if_neg c_25]), rfl, (by simp only [m_rs, if_pos c_11, if_neg c_25]), rfl⟩
  · refine pr_aload_n hA dX8_readStatement_14 rfl ?_
    refine pr_callVi hA [] (c_m_rn (m := m) (σ := (pr_up (pr_up σ 0 9 (nI (sk (σ 7) n p))) 0 10 (nI (sk (σ 7) n p)))) (n := n) (q := (sk (σ 7) n p)) (fn := fn) (pr_hl hA) hm ((pr_upk (by decide)).trans ((pr_upk (by decide)).trans hn)) (by omega) pr_upe (by omega) ((pr_upk (by decide)).trans ((pr_upk (by decide)).trans h12)) ((pr_upv (by decide)).trans ((pr_upv (by decide)).trans hfn)) (by omega) ) v_X8_166 (mo_k0 hm) (by decide) rfl rfl rfl (by decide) (Nat.zero_le _) (Nat.zero_le _) rfl (Nat.le_of_ble_eq_true rfl) dX8_readStatement_15 ?_
    exact pr_ireturn hA rfl (pr_nb (by first | exact nb_rn | exact nb_rl | exact nb_rg | exact Or.inl rfl | exact nb_ite (Or.inl rfl) nb_rg | exact nb_ite nb_rg (Or.inl rfl))) (Nat.zero_le _) (Nat.zero_le _) dX8_readStatement_18 ⟨(by simp only [m_rs_r, if_neg c_11]), rfl, (by simp only [m_rs, if_neg c_11]), rfl⟩

theorem fr_m_rs {σ : pr_I} {n : Nat} {p : Nat} {fn : Nat} {fl : Nat} {o : Nat} (hms : ∀ m ∈ ([0, 3] : List Nat), o ≠ m) : m_rs σ n p fn fl o = σ o := by
  unfold m_rs
  simp only [List.mem_cons, List.not_mem_nil, or_false, forall_eq_or_imp, forall_eq] at hms
  by_cases c_11 : (iw (σ 7) n (sk (σ 7) n p) 0) = 0
  · refine (congrFun (if_pos c_11) o).trans ?_
    by_cases c_25 : (iw (σ 7) n (sk (σ 7) n p) 1) = 0
    · refine (congrFun (if_pos c_25) o).trans ?_
      by_cases c_39 : (iw (σ 7) n (sk (σ 7) n p) 2) = 0
      · refine (congrFun (if_pos c_39) o).trans ?_
        by_cases c_54 : (iw (σ 7) n (sk (σ 7) n p) 3) = 0
        · refine (congrFun (if_pos c_54) o).trans ?_
          by_cases c_69 : (iw (σ 7) n (sk (σ 7) n p) 4) = 0
          · refine (congrFun (if_pos c_69) o).trans ?_
            by_cases c_84 : (iw (σ 7) n (sk (σ 7) n p) 5) = 0
            · refine (congrFun (if_pos c_84) o).trans ?_
              by_cases c_99 : (iw (σ 7) n (sk (σ 7) n p) 6) = 0
              · refine (congrFun (if_pos c_99) o).trans ?_
                rw [pr_up_ne (by omega), pr_up_ne (by omega), pr_up_ne (by omega), pr_up_ne (by omega)]
              · refine (congrFun (if_neg c_99) o).trans ?_
                rw [fr_m_rg (by simp only [List.mem_cons, List.not_mem_nil, or_false, forall_eq_or_imp, forall_eq]; omega), pr_up_ne (by omega), pr_up_ne (by omega)]
            · refine (congrFun (if_neg c_84) o).trans ?_
              rw [fr_m_rg (by simp only [List.mem_cons, List.not_mem_nil, or_false, forall_eq_or_imp, forall_eq]; omega), pr_up_ne (by omega), pr_up_ne (by omega)]
          · refine (congrFun (if_neg c_69) o).trans ?_
            rw [fr_m_rg (by simp only [List.mem_cons, List.not_mem_nil, or_false, forall_eq_or_imp, forall_eq]; omega), pr_up_ne (by omega), pr_up_ne (by omega)]
        · refine (congrFun (if_neg c_54) o).trans ?_
          rw [fr_m_rg (by simp only [List.mem_cons, List.not_mem_nil, or_false, forall_eq_or_imp, forall_eq]; omega), pr_up_ne (by omega), pr_up_ne (by omega)]
      · refine (congrFun (if_neg c_39) o).trans ?_
        rw [fr_m_rg (by simp only [List.mem_cons, List.not_mem_nil, or_false, forall_eq_or_imp, forall_eq]; omega), pr_up_ne (by omega), pr_up_ne (by omega)]
    · refine (congrFun (if_neg c_25) o).trans ?_
      rw [fr_m_rl (by simp only [List.mem_cons, List.not_mem_nil, or_false, forall_eq_or_imp, forall_eq]; omega), pr_up_ne (by omega), pr_up_ne (by omega)]
  · refine (congrFun (if_neg c_11) o).trans ?_
    rw [fr_m_rn (by simp only [List.mem_cons, List.not_mem_nil, or_false, forall_eq_or_imp, forall_eq]; omega), pr_up_ne (by omega), pr_up_ne (by omega)]

theorem m_rs_I {σ : pr_I} {n p fn fl : Nat} (h : rk n σ) (hn7 : n ≤ 700) (hpn : p ≤ n) (hfn12 : fn ≤ 12) (hfl24 : fl ≤ 24) (c : ¬ m_rs_r σ n p fn fl = 0) : rk n (m_rs σ n p fn fl) ∧ ∃ p', p ≤ p' ∧ p' ≤ n ∧ (m_rs σ n p fn fl) 0 9 = nI p' := by
  have hs1 := sk_le (b := σ 7) hpn
  have h1 : rk n (pr_up (pr_up σ 0 9 (nI (sk (σ 7) n p))) 0 10 (nI (sk (σ 7) n p))) := rk.b (rk.p h)
  have w : ∀ {S : pr_I}, (rk n S ∧ ∃ p', (sk (σ 7) n p) ≤ p' ∧ p' ≤ n ∧ S 0 9 = nI p') → rk n S ∧ ∃ p', p ≤ p' ∧ p' ≤ n ∧ S 0 9 = nI p' := fun ⟨a, p', b, d, e⟩ => ⟨a, p', by omega, d, e⟩
  unfold m_rs_r at c
  unfold m_rs
  by_cases c0 : (iw (σ 7) n (sk (σ 7) n p) 0) = 0
  rotate_left
  · rw [if_neg c0] at c ⊢; exact w (m_rn_I h1 hn7 hs1.2 hfn12 c)
  rw [if_pos c0] at c ⊢
  by_cases c1 : (iw (σ 7) n (sk (σ 7) n p) 1) = 0
  rotate_left
  · rw [if_neg c1] at c ⊢; exact w (m_rl_I h1 hs1.2 hfn12 hfl24 c)
  rw [if_pos c1] at c ⊢
  by_cases c2 : (iw (σ 7) n (sk (σ 7) n p) 2) = 0
  rotate_left
  · rw [if_neg c2] at c ⊢; exact w (m_rg_I h1 hs1.2 (by decide) (by decide) c)
  rw [if_pos c2] at c ⊢
  by_cases c3 : (iw (σ 7) n (sk (σ 7) n p) 3) = 0
  rotate_left
  · rw [if_neg c3] at c ⊢; exact w (m_rg_I h1 hs1.2 (by decide) (by decide) c)
  rw [if_pos c3] at c ⊢
  by_cases c4 : (iw (σ 7) n (sk (σ 7) n p) 4) = 0
  rotate_left
  · rw [if_neg c4] at c ⊢; exact w (m_rg_I h1 hs1.2 (by decide) (by decide) c)
  rw [if_pos c4] at c ⊢
  by_cases c5 : (iw (σ 7) n (sk (σ 7) n p) 5) = 0
  rotate_left
  · rw [if_neg c5] at c ⊢; exact w (m_rg_I h1 hs1.2 (by decide) (by decide) c)
  rw [if_pos c5] at c ⊢
  by_cases c6 : (iw (σ 7) n (sk (σ 7) n p) 6) = 0
  rotate_left
  · rw [if_neg c6] at c ⊢; exact w (m_rg_I h1 hs1.2 (by decide) (by decide) c)
  rw [if_pos c6] at c ⊢
  exact absurd rfl c
noncomputable def m_pt (σ : pr_I) : Nat := (σ 0 9).toNatClampNeg
def fnn (σ : pr_I) : Nat := (σ 3 6).toNatClampNeg
def fln (σ : pr_I) : Nat := (σ 3 7).toNatClampNeg
theorem m_pt_eq {σ : pr_I} {p : Nat} (h : σ 0 9 = nI p) (hp : p ≤ 700) : m_pt σ = p := by unfold m_pt; rw [h, nI_clamp (by omega)]
theorem mI_fnn {σ : pr_I} (h : mI σ) : σ 3 6 = nI (fnn σ) := vp_nI (h 3 6 13 rfl) (by decide)
theorem mI_fnn12 {σ : pr_I} (h : mI σ) : fnn σ ≤ 12 := Nat.le_of_lt_succ (vp_in_lt (h 3 6 13 rfl))
theorem mI_fln {σ : pr_I} (h : mI σ) : σ 3 7 = nI (fln σ) := vp_nI (h 3 7 25 rfl) (by decide)
theorem mI_fln24 {σ : pr_I} (h : mI σ) : fln σ ≤ 24 := Nat.le_of_lt_succ (vp_in_lt (h 3 7 25 rfl))
noncomputable def ra_f (b : Nat → Int32) (n : Nat) : Nat → pr_I → pr_I × Int32
  | 0, σ1 => (σ1, 0)
  | j + 1, σ1 => if bt b n (sk b n (m_pt σ1)) = (59 : Int32) then (if m_rs_r (pr_up (pr_up (pr_up σ1 0 9 (nI (sk b n (m_pt σ1)))) 0 10 (nI (sk b n (m_pt σ1)))) 0 9 (nI (sk b n (m_pt σ1) + 1))) n (sk b n (m_pt σ1) + 1) (fnn σ1) (fln σ1) = 0 then (m_rs (pr_up (pr_up (pr_up σ1 0 9 (nI (sk b n (m_pt σ1)))) 0 10 (nI (sk b n (m_pt σ1)))) 0 9 (nI (sk b n (m_pt σ1) + 1))) n (sk b n (m_pt σ1) + 1) (fnn σ1) (fln σ1), 0) else ra_f b n j (m_rs (pr_up (pr_up (pr_up σ1 0 9 (nI (sk b n (m_pt σ1)))) 0 10 (nI (sk b n (m_pt σ1)))) 0 9 (nI (sk b n (m_pt σ1) + 1))) n (sk b n (m_pt σ1) + 1) (fnn σ1) (fln σ1)))
    else (if bt b n (sk b n (sk b n (m_pt σ1))) = (-1 : Int32) then ((pr_up (pr_up (pr_up (pr_up σ1 0 9 (nI (sk b n (m_pt σ1)))) 0 10 (nI (sk b n (m_pt σ1)))) 0 9 (nI (sk b n (sk b n (m_pt σ1))))) 0 10 (nI (sk b n (sk b n (m_pt σ1))))), 1) else (pr_up (pr_up (pr_up (pr_up (pr_up (pr_up σ1 0 9 (nI (sk b n (m_pt σ1)))) 0 10 (nI (sk b n (m_pt σ1)))) 0 9 (nI (sk b n (sk b n (m_pt σ1))))) 0 10 (nI (sk b n (sk b n (m_pt σ1))))) 0 12 (1 : Int32)) 0 11 (nI (sk b n (sk b n (m_pt σ1)))), 0))
noncomputable def ra_R (σ : pr_I) (n : Nat) : pr_I × Int32 := if m_rs_r σ n (m_pt σ) (fnn σ) (fln σ) = 0 then (m_rs σ n (m_pt σ) (fnn σ) (fln σ), 0) else ra_f (σ 7) n (n + 1) (m_rs σ n (m_pt σ) (fnn σ) (fln σ))
noncomputable def m_ra (σ : pr_I) (n : Nat) : pr_I := (ra_R σ n).1
noncomputable def m_ra_r (σ : pr_I) (n : Nat) : Int32 := (ra_R σ n).2
theorem bt_59 {b : Nat → Int32} {n k : Nat} (h : bt b n k = 59) : k < n := bt_lt (by rw [h]; decide)
set_option maxRecDepth 100000 in
set_option maxHeartbeats 400000 in
theorem c_m_ra {g : pr_C} {l : Launch} (hl : l.stackTraces = false) {T : pr_T} {I : pr_I} {L : pr_L} {m : Nat} {σ : pr_I} (hm : pr_Mo T m) {n : Nat} (hk0 : rk n σ) (hn7 : n ≤ 700) (hp0 : σ 0 9 = nI (m_pt σ)) (hpn : m_pt σ ≤ n) : pr_M g l 11 0 0 mX8_readsAll [.ref m] T (rg_put I m 16 σ) L (pr_R (some (.int (m_ra_r σ n))) T (rg_put I m 16 (m_ra σ n)) L) pr_no := by
  refine pr_ofG (by decide) rfl hl (Nat.le_of_ble_eq_true rfl) (fun X hA hX hXn hXt => ?_)
  subst hX
  show pr_G g X mX8_readsAll.2.2.1 _ 0 0 0 [.ref m] [] T (rg_put I m 16 σ) L
  have jn12 := mI_fnn12 hk0.2.2
  have jl24 := mI_fln24 hk0.2.2
  refine pr_aload_n hA dX8_readsAll_0 rfl ?_
  refine pr_callVi hA [] (c_m_rs (m := m) (σ := σ) (n := n) (p := (m_pt σ)) (fn := (fnn σ)) (fl := (fln σ)) (pr_hl hA) hm hk0.1 (by omega) hp0 (by omega) hk0.2.1 (mI_fnn hk0.2.2) (by omega) (mI_fln hk0.2.2) (by omega) ) v_X8_187 (mo_k0 hm) (by decide) rfl rfl rfl (by decide) (Nat.zero_le _) (Nat.zero_le _) rfl (Nat.le_of_ble_eq_true rfl) dX8_readsAll_1 ?_
  refine pr_if_ne hA 9 dX8_readsAll_4 (by decide) (fun c_4 => ?_) (fun c_4 => ?_)
  · have hR00 : ra_R σ n = ra_f (σ 7) n (n + 1) (m_rs σ n (m_pt σ) (fnn σ) (fln σ)) := by unfold ra_R; rw [if_neg c_4]
    have lp9 : ∀ (j : Nat) (σ1 : pr_I), rk n σ1 → σ1 7 = σ 7 → m_pt σ1 ≤ n → n < m_pt σ1 + j → σ1 0 9 = nI (m_pt σ1) → ra_f (σ 7) n j σ1 = ra_R σ n → pr_G g X mX8_readsAll.2.2.1 (pr_MQ g X (pr_R (some (.int (m_ra_r σ n))) T (rg_put I m 16 (m_ra σ n)) L) pr_no 0 0) 0 0 9 [.ref m] [] T (rg_put I m 16 σ1) L := by
      intro j
      induction j with
      | zero => intro σ1 hk1 h7 hpn1 hj hp1 hR; omega
      | succ j ih =>
        intro σ1 hk1 h7 hpn1 hj hp1 hR; have h7x : (∀ m ∈ ([] : List Nat), 7 ≠ m) → σ1 7 = σ 7 := fun _ => h7; have jn12 := mI_fnn12 hk1.2.2; have jl24 := mI_fln24 hk1.2.2; have js1 := sk_le (b := σ 7) hpn1; have js2 := sk_le (b := σ 7) js1.2
        refine pr_aload_n hA dX8_readsAll_9 rfl ?_
        refine pr_callVi hA [] (c_seeE (m := m) (σ := σ1) (n := n) (p := (m_pt σ1)) (b := (σ 7)) (pr_hl hA) hm hk1.1 (by omega) hp1 (by omega) (h7x (fun m hm => by cases hm))) v_X8_116 (mo_k0 hm) (by decide) rfl rfl rfl (by decide) (Nat.zero_le _) (Nat.zero_le _) rfl (Nat.le_of_ble_eq_true rfl) dX8_readsAll_10 ?_
        refine pr_bipush hA (59) dX8_readsAll_13 (by decide) ?_
        refine pr_icmp_ne hA 37 dX8_readsAll_15 (by decide) (fun c_15 => ?_) (fun c_15 => ?_)
        · refine pr_aload_n hA dX8_readsAll_37 rfl ?_
          refine pr_callVi hA [] (c_seeE (m := m) (σ := (pr_up (pr_up σ1 0 9 (nI (sk (σ 7) n (m_pt σ1)))) 0 10 (nI (sk (σ 7) n (m_pt σ1))))) (n := n) (p := (sk (σ 7) n (m_pt σ1))) (b := (σ 7)) (pr_hl hA) hm ((pr_upk (by decide)).trans ((pr_upk (by decide)).trans hk1.1)) (by omega) ((pr_upk (by decide)).trans pr_upe) (by omega) ((pr_up_ne (by decide)).trans ((pr_up_ne (by decide)).trans (h7x (fun m hm => by cases hm))))) v_X8_116 (mo_k0 hm) (by decide) rfl rfl rfl (by decide) (Nat.zero_le _) (Nat.zero_le _) rfl (Nat.le_of_ble_eq_true rfl) dX8_readsAll_38 ?_
          refine pr_iconst hA ((-1)) dX8_readsAll_41 (by decide) ?_
          refine pr_icmp_eq hA 53 dX8_readsAll_42 (by decide) (fun c_42 => ?_) (fun c_42 => ?_)
          · refine pr_iconst hA (1) dX8_readsAll_53 (by decide) ?_
            refine pr_goto hA 58 dX8_readsAll_54 (by decide) ?_
            exact pr_ireturn hA rfl (pr_nb (by repeat (first | exact Or.inl rfl | exact Or.inr rfl | refine nb_ite ?_ ?_))) (Nat.zero_le _) (Nat.zero_le _) dX8_readsAll_58 ⟨by unfold m_ra_r; rw [← hR]; simp only [ra_f, if_neg c_15, if_pos c_42], rfl, by unfold m_ra; rw [← hR]; simp only [ra_f, if_neg c_15, if_pos c_42], rfl⟩
          · refine pr_aload_n hA dX8_readsAll_45 rfl ?_
            refine pr_iconst hA (1) dX8_readsAll_46 (by decide) ?_
            refine pr_callVi hA [.int (1 : Int32)] (c_fails (m := m) (σ := (pr_up (pr_up (pr_up (pr_up σ1 0 9 (nI (sk (σ 7) n (m_pt σ1)))) 0 10 (nI (sk (σ 7) n (m_pt σ1)))) 0 9 (nI (sk (σ 7) n (sk (σ 7) n (m_pt σ1))))) 0 10 (nI (sk (σ 7) n (sk (σ 7) n (m_pt σ1)))))) (q := (sk (σ 7) n (sk (σ 7) n (m_pt σ1)))) (e := (1 : Int32)) (pr_hl hA) hm pr_upe ((pr_upk (by decide)).trans ((pr_upk (by decide)).trans ((pr_upk (by decide)).trans ((pr_upk (by decide)).trans hk1.2.1))))) v_X8_122 (mo_k0 hm) (by decide) rfl rfl rfl (by decide) (Nat.zero_le _) (Nat.zero_le _) rfl (Nat.le_of_ble_eq_true rfl) dX8_readsAll_47 ?_
            refine pr_if_eq hA 57 dX8_readsAll_50 (by decide) (fun c_50 => ?_) (fun c_50 => ?_)
            · refine pr_iconst hA (0) dX8_readsAll_57 (by decide) ?_
              exact pr_ireturn hA rfl (pr_nb (by repeat (first | exact Or.inl rfl | exact Or.inr rfl | refine nb_ite ?_ ?_))) (Nat.zero_le _) (Nat.zero_le _) dX8_readsAll_58 ⟨by unfold m_ra_r; rw [← hR]; simp only [ra_f, if_neg c_15, if_neg c_42], rfl, by unfold m_ra; rw [← hR]; simp only [ra_f, if_neg c_15, if_neg c_42], rfl⟩
            · exact (c_50 (by decide)).elim
        · have hlt := bt_59 c_15
          refine pr_aload_n hA dX8_readsAll_18 rfl ?_
          refine pr_dup hA dX8_readsAll_19 rfl ?_
          refine pr_getE (v := (nI (sk (σ 7) n (m_pt σ1)))) hA f_X8_88 rfl (mo_k0 hm) ((rg_val0 (by decide)).trans ((pr_upk (by decide)).trans pr_upe)) dX8_readsAll_20 ?_
          refine pr_iconst hA (1) dX8_readsAll_23 (by decide) ?_
          refine pr_iaddE (v := nI ((sk (σ 7) n (m_pt σ1)) + 1)) hA (nI_1 _) dX8_readsAll_24 ?_
          refine pr_putE (I' := (rg_put I m 16 (pr_up (pr_up (pr_up σ1 0 9 (nI (sk (σ 7) n (m_pt σ1)))) 0 10 (nI (sk (σ 7) n (m_pt σ1)))) 0 9 (nI ((sk (σ 7) n (m_pt σ1)) + 1))))) hA f_X8_88 rfl (mo_k0 hm) (rg_up0 (by decide)) dX8_readsAll_25 ?_
          refine pr_aload_n hA dX8_readsAll_28 rfl ?_
          refine pr_callVi hA [] (c_m_rs (m := m) (σ := (pr_up (pr_up (pr_up σ1 0 9 (nI (sk (σ 7) n (m_pt σ1)))) 0 10 (nI (sk (σ 7) n (m_pt σ1)))) 0 9 (nI ((sk (σ 7) n (m_pt σ1)) + 1)))) (n := n) (p := ((sk (σ 7) n (m_pt σ1)) + 1)) (fn := (fnn σ1)) (fl := (fln σ1)) (pr_hl hA) hm ((pr_upk (by decide)).trans ((pr_upk (by decide)).trans ((pr_upk (by decide)).trans hk1.1))) (by omega) pr_upe (by omega) ((pr_upk (by decide)).trans ((pr_upk (by decide)).trans ((pr_upk (by decide)).trans hk1.2.1))) ((pr_upv (by decide)).trans ((pr_upv (by decide)).trans ((pr_upv (by decide)).trans (mI_fnn hk1.2.2)))) (by omega) ((pr_upv (by decide)).trans ((pr_upv (by decide)).trans ((pr_upv (by decide)).trans (mI_fln hk1.2.2)))) (by omega) ) v_X8_187 (mo_k0 hm) (by decide) rfl rfl rfl (by decide) (Nat.zero_le _) (Nat.zero_le _) rfl (Nat.le_of_ble_eq_true rfl) dX8_readsAll_29 ?_
          refine pr_if_ne hA 9 dX8_readsAll_32 (by decide) (fun c_32 => ?_) (fun c_32 => ?_)
          · obtain ⟨hk2, p2, hp2, hp3, hp4⟩ := m_rs_I (rk.p (rk.b (rk.p hk1))) hn7 (by omega) jn12 jl24 c_32
            have he := m_pt_eq hp4 (by omega)
            simp only [ra_f, if_pos c_15, if_neg c_32] at hR
            exact (ih _ hk2 ((fr_m_rs (by decide)).trans ((pr_up_ne (by decide)).trans ((pr_up_ne (by decide)).trans ((pr_up_ne (by decide)).trans h7)))) (by rw [he]; exact hp3) (by rw [he]; omega) (by rw [he]; exact hp4) hR)
          · refine pr_iconst hA (0) dX8_readsAll_35 (by decide) ?_
            exact pr_ireturn hA rfl (pr_nb (by repeat (first | exact Or.inl rfl | exact Or.inr rfl | refine nb_ite ?_ ?_))) (Nat.zero_le _) (Nat.zero_le _) dX8_readsAll_36 ⟨by unfold m_ra_r; rw [← hR]; simp only [ra_f, if_pos c_15, if_pos c_32], rfl, by unfold m_ra; rw [← hR]; simp only [ra_f, if_pos c_15, if_pos c_32], rfl⟩
    exact (by obtain ⟨hk2, p2, hp2, hp3, hp4⟩ := m_rs_I hk0 hn7 hpn jn12 jl24 c_4; have he := m_pt_eq hp4 (by omega); exact lp9 (n + 1) _ hk2 (fr_m_rs (by decide)) (by rw [he]; exact hp3) (by omega) (by rw [he]; exact hp4) hR00.symm)
  · have hR : ra_R σ n = (m_rs σ n (m_pt σ) (fnn σ) (fln σ), 0) := by unfold ra_R; rw [if_pos c_4]
    refine pr_iconst hA (0) dX8_readsAll_7 (by decide) ?_
    exact pr_ireturn hA rfl (pr_nb (by repeat (first | exact Or.inl rfl | exact Or.inr rfl | refine nb_ite ?_ ?_))) (Nat.zero_le _) (Nat.zero_le _) dX8_readsAll_8 ⟨by unfold m_ra_r; rw [hR], rfl, by unfold m_ra; rw [hR], rfl⟩

