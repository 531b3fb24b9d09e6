/-! WHAT THE REFERENCE REFUSES: a setting out of its range -/
set_option maxRecDepth 100000 in
set_option maxHeartbeats 400000 in
theorem r_setSetting_1 {g : pr_C} {l : Launch} (hl : l.stackTraces = false) {T : pr_T} {I : pr_I} {L : pr_L} {m : Nat} {σ : pr_I} {c : Nat} {p2 : Int32} (hm : pr_Mo T m) (hI : mI σ) (hc : c ≤ 4) (hf : p2 < m_lst (1 + c) ∨ m_mst (1 + c) < p2) : pr_M g l 11 0 0 mX8_setSetting [.ref m, .int (nI c), .int p2] T (rg_put I m 16 σ) L (pr_R (some (.int 0)) T (rg_put I m 16 (pr_up σ 0 6 (1 : Int32))) L) pr_no := by
  refine pr_ofG (by decide) rfl hl (Nat.le_of_ble_eq_true rfl) (fun X hA hX hXn hXt => ?_)
  subst hX
  show pr_G g X mX8_setSetting.2.2.1 _ 0 0 0 [.ref m, .int (nI c), .int p2, .null] [] T (rg_put I m 16 σ) L
  have hn5 := mI_n5 hI
  have hr4 := mI_nr4 hI
  have hl24 := mI_nl24 hI
  have hn12 := mI_nn12 hI
  refine pr_aload_n hA dX8_setSetting_0 rfl ?_
  refine pr_iconst hA (0) dX8_setSetting_1 (by decide) ?_
  refine pr_putE (I' := (rg_put I m 16 (pr_up σ 0 6 (0 : Int32)))) hA f_X8_60 rfl (mo_k0 hm) (rg_up0 (by decide)) dX8_setSetting_2 ?_
  refine pr_aload_n hA dX8_setSetting_5 rfl ?_
  refine pr_iload_n hA dX8_setSetting_6 rfl ?_
  refine pr_i2l hA dX8_setSetting_7 ?_
  refine pr_lconst hA 0 dX8_setSetting_8 (by decide) ?_
  refine pr_ldc2 hA kK_X8_320 dX8_setSetting_9 ?_
  refine pr_callSi hA [.long (((nI c)).toInt64), .long (0 : Int64), .long (4 : Int64)] (c_inE (m := m) (σ := (pr_up σ 0 6 (0 : Int32))) (v := 1) (pr_hl hA) hm (in_c1 (B := 4) (by omega) (by decide) (by decide))) s_X8_80 rfl (by decide) (Nat.zero_le _) (Nat.zero_le _) rfl (Nat.le_of_ble_eq_true rfl) dX8_setSetting_12 ?_
  refine pr_if_eq hA 40 dX8_setSetting_15 (by decide) (fun c_15 => ?_) (fun c_15 => ?_)
  · exact absurd c_15 (by decide)
  · refine pr_iload_n hA dX8_setSetting_18 rfl ?_
    refine pr_i2l hA dX8_setSetting_19 ?_
    refine pr_iconst hA (nI 1) dX8_setSetting_20 (by decide) ?_
    refine pr_iload_n hA dX8_setSetting_21 rfl ?_
    refine pr_iadd hA dX8_setSetting_22 ?_
    rw [show ((nI 1) + (nI c)) = (nI (1 + c)) from (nI_add 1 c)]
    refine pr_callSi hA [.int (nI (1 + c))] (c_m_lst (m := m) (σ := (pr_up σ 0 6 (0 : Int32))) (j := (1 + c)) (pr_hl hA) (by omega) (by omega)) s_X8_154 rfl (by decide) (Nat.zero_le _) (Nat.zero_le _) rfl (Nat.le_of_ble_eq_true rfl) dX8_setSetting_23 ?_
    refine pr_i2l hA dX8_setSetting_26 ?_
    refine pr_iconst hA (nI 1) dX8_setSetting_27 (by decide) ?_
    refine pr_iload_n hA dX8_setSetting_28 rfl ?_
    refine pr_iadd hA dX8_setSetting_29 ?_
    rw [show ((nI 1) + (nI c)) = (nI (1 + c)) from (nI_add 1 c)]
    refine pr_callSi hA [.int (nI (1 + c))] (c_m_mst (m := m) (σ := (pr_up σ 0 6 (0 : Int32))) (j := (1 + c)) (pr_hl hA) (by omega) (by omega)) s_X8_157 rfl (by decide) (Nat.zero_le _) (Nat.zero_le _) rfl (Nat.le_of_ble_eq_true rfl) dX8_setSetting_30 ?_
    refine pr_i2l hA dX8_setSetting_33 ?_
    refine pr_callSi hA [.long ((p2).toInt64), .long (((m_lst (1 + c))).toInt64), .long (((m_mst (1 + c))).toInt64)] (c_inE (m := m) (σ := (pr_up σ 0 6 (0 : Int32))) (v := 0) (pr_hl hA) hm (in_z0 hf rfl rfl)) s_X8_80 rfl (by decide) (Nat.zero_le _) (Nat.zero_le _) rfl (Nat.le_of_ble_eq_true rfl) dX8_setSetting_34 ?_
    refine pr_if_ne hA 44 dX8_setSetting_37 (by decide) (fun c_37 => ?_) (fun c_37 => ?_)
    · exact (c_37 (by decide)).elim
    · refine pr_iconst hA (1) dX8_setSetting_40 (by decide) ?_
      refine pr_goto hA 45 dX8_setSetting_41 (by decide) ?_
      refine pr_iconst hA (1) dX8_setSetting_45 (by decide) ?_
      refine pr_callVi hA [.int (1 : Int32), .int (1 : Int32)] (c_tiE (m := m) (σ := (pr_up σ 0 6 (0 : Int32))) (pr_hl hA) hm (ti_1 pr_upe (by decide))) v_X8_301 (mo_k0 hm) (by decide) rfl rfl rfl (by decide) (Nat.zero_le _) (Nat.zero_le _) rfl (Nat.le_of_ble_eq_true rfl) dX8_setSetting_46 ?_
      refine pr_if_eq hA 54 dX8_setSetting_49 (by decide) (fun c_49 => ?_) (fun c_49 => ?_)
      · exact absurd c_49 (by decide)
      · refine pr_iconst hA (0) dX8_setSetting_52 (by decide) ?_
        exact pr_ireturn hA rfl rfl (Nat.zero_le _) (Nat.zero_le _) dX8_setSetting_53 ⟨rfl, rfl, (by simp only [pr_up_two]), rfl⟩

