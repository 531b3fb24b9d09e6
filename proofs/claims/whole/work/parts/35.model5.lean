noncomputable def m_fw (σ : pr_I) (r : Nat) : pr_I := (if (σ 1 (264 + 28 * r + 14)) = (σ 1 (264 + 28 * r + 13)) then (pr_up σ 1 (264 + 28 * r + 4) (1 : Int32)) else (if (σ 1 (96 + 7 * ((σ 1 (264 + 28 * r + (15 + (σ 1 (264 + 28 * r + 14)).toNatClampNeg))).toNatClampNeg) + 5)) = 0 then (m_fa σ r (σ 1 (264 + 28 * r + (15 + (σ 1 (264 + 28 * r + 14)).toNatClampNeg)))) else (if (m_ax_r σ (mtn σ) (σ 1 (264 + 28 * r + (15 + (σ 1 (264 + 28 * r + 14)).toNatClampNeg)))) < (σ 1 (264 + 28 * r + 2)) then (m_fa σ r (σ 1 (264 + 28 * r + (15 + (σ 1 (264 + 28 * r + 14)).toNatClampNeg)))) else (if (nI (mtn σ)) < (nI 500) then (m_go (m_is σ r (σ 1 (264 + 28 * r + (15 + (σ 1 (264 + 28 * r + 14)).toNatClampNeg)))) r ((σ 1 (264 + 28 * r + 14)) + (1 : Int32)) (σ 1 (264 + 28 * r + (15 + (σ 1 (264 + 28 * r + 14)).toNatClampNeg)))) else (m_fa σ r (σ 1 (264 + 28 * r + (15 + (σ 1 (264 + 28 * r + 14)).toNatClampNeg))))))))
set_option maxRecDepth 100000 in
set_option maxHeartbeats 400000 in
theorem c_m_fw {g : pr_C} {l : Launch} (hl : l.stackTraces = false) {T : pr_T} {I : pr_I} {L : pr_L} {m : Nat} {σ : pr_I} {r : Nat} (hm : pr_Mo T m) (hI : mI σ) (hr : r < 40) (hp : ¬ σ 1 (264 + 28 * r + 14) = σ 1 (264 + 28 * r + 13) → vp_in (σ 1 (264 + 28 * r + 14)) 11) : pr_M g l 6 0 0 mX8_forward [.ref m, .int (nI r)] T (rg_put I m 16 σ) L (pr_R none T (rg_put I m 16 (m_fw σ r)) L) pr_no := by
  refine pr_ofG (by decide) rfl hl (Nat.le_of_ble_eq_true rfl) (fun X hA hX hXn hXt => ?_)
  subst hX
  show pr_G g X mX8_forward.2.2.1 _ 0 0 0 [.ref m, .int (nI r), .null, .null] [] T (rg_put I m 16 σ) L
  have hn5 := mI_n5 hI
  have hr4 := mI_nr4 hI
  have hl24 := mI_nl24 hI
  have hn12 := mI_nn12 hI
  refine pr_aload_n hA dX8_forward_0 rfl ?_
  refine pr_iload_n hA dX8_forward_1 rfl ?_
  refine pr_bipush hA (14) dX8_forward_2 (by decide) ?_
  refine pr_callVi hA [.int (nI r), .int (14 : Int32)] (c_m_req (m := m) (k := r) (c := 14) (σ := σ) (pr_hl hA) hm (by omega) (by omega)) v_X8_229 (mo_k0 hm) (by decide) rfl rfl rfl (by decide) (Nat.zero_le _) (Nat.zero_le _) rfl (Nat.le_of_ble_eq_true rfl) dX8_forward_4 ?_
  refine pr_istore_n (ls' := [_, _, _, _]) hA dX8_forward_7 (by decide) rfl ?_
  refine pr_iload_n hA dX8_forward_8 rfl ?_
  refine pr_aload_n hA dX8_forward_9 rfl ?_
  refine pr_iload_n hA dX8_forward_10 rfl ?_
  refine pr_bipush hA (13) dX8_forward_11 (by decide) ?_
  refine pr_callVi hA [.int (nI r), .int (13 : Int32)] (c_m_req (m := m) (k := r) (c := 13) (σ := σ) (pr_hl hA) hm (by omega) (by omega)) v_X8_229 (mo_k0 hm) (by decide) rfl rfl rfl (by decide) (Nat.zero_le _) (Nat.zero_le _) rfl (Nat.le_of_ble_eq_true rfl) dX8_forward_13 ?_
  refine pr_icmp_ne hA 27 dX8_forward_16 (by decide) (fun c_16 => ?_) (fun c_16 => ?_)
  · have hp0 := hp c_16
    have hp1 := vp_in_lt hp0
    have hx0 : vp_in (σ 1 (264 + 28 * r + (15 + (σ 1 (264 + 28 * r + 14)).toNatClampNeg))) 24 := mI_req hI (k := r) (c := 15 + (σ 1 (264 + 28 * r + 14)).toNatClampNeg) hr (by omega) (mR_path hp1)
    have hx1 := vp_in_lt hx0
    refine pr_aload_n hA dX8_forward_27 rfl ?_
    refine pr_iload_n hA dX8_forward_28 rfl ?_
    refine pr_bipush hA (nI 15) dX8_forward_29 (by decide) ?_
    refine pr_iload_n hA dX8_forward_31 rfl ?_
    refine pr_iadd hA dX8_forward_32 ?_
    rw [show ((nI 15) + (σ 1 (264 + 28 * r + 14))) = (nI (15 + (σ 1 (264 + 28 * r + 14)).toNatClampNeg)) from (nI_addx hp0 (by decide))]
    refine pr_callVi hA [.int (nI r), .int (nI (15 + (σ 1 (264 + 28 * r + 14)).toNatClampNeg))] (c_m_req (m := m) (k := r) (c := (15 + (σ 1 (264 + 28 * r + 14)).toNatClampNeg)) (σ := σ) (pr_hl hA) hm (by omega) (by omega)) v_X8_229 (mo_k0 hm) (by decide) rfl rfl rfl (by decide) (Nat.zero_le _) (Nat.zero_le _) rfl (Nat.le_of_ble_eq_true rfl) dX8_forward_33 ?_
    refine pr_istore_n (ls' := [_, _, _, _]) hA dX8_forward_36 (by decide) rfl ?_
    refine pr_aload_n hA dX8_forward_37 rfl ?_
    refine pr_iload_n hA dX8_forward_38 rfl ?_
    refine pr_iconst hA (5) dX8_forward_39 (by decide) ?_
    refine pr_callVi hA [.int (σ 1 (264 + 28 * r + (15 + (σ 1 (264 + 28 * r + 14)).toNatClampNeg))), .int (5 : Int32)] (c_m_linkx (m := m) (x := (σ 1 (264 + 28 * r + (15 + (σ 1 (264 + 28 * r + 14)).toNatClampNeg)))) (c := 5) (σ := σ) (pr_hl hA) hm (by assumption) (by omega)) v_X8_204 (mo_k0 hm) (by decide) rfl rfl rfl (by decide) (Nat.zero_le _) (Nat.zero_le _) rfl (Nat.le_of_ble_eq_true rfl) dX8_forward_40 ?_
    refine pr_if_eq hA 73 dX8_forward_43 (by decide) (fun c_43 => ?_) (fun c_43 => ?_)
    · refine pr_aload_n hA dX8_forward_73 rfl ?_
      refine pr_iload_n hA dX8_forward_74 rfl ?_
      refine pr_iload_n hA dX8_forward_75 rfl ?_
      have hv76 : mI σ := hI
      refine pr_callVv hA [.int (nI r), .int (σ 1 (264 + 28 * r + (15 + (σ 1 (264 + 28 * r + 14)).toNatClampNeg)))] (c_m_fa (m := m) (σ := σ) (r := r) (x := (σ 1 (264 + 28 * r + (15 + (σ 1 (264 + 28 * r + 14)).toNatClampNeg)))) (pr_hl hA) hm hv76 (by first | omega | assumption) (by first | omega | assumption)) v_X8_245 (mo_k0 hm) (by decide) rfl rfl rfl (by decide) (Nat.zero_le _) (Nat.zero_le _) rfl (Nat.le_of_ble_eq_true rfl) dX8_forward_76 ?_
      exact pr_return hA rfl (Nat.zero_le _) (Nat.zero_le _) dX8_forward_79 ⟨rfl, rfl, (by simp only [m_fw, if_neg c_16, if_pos c_43]), rfl⟩
    · refine pr_aload_n hA dX8_forward_46 rfl ?_
      refine pr_iload_n hA dX8_forward_47 rfl ?_
      have hv48 : mI σ := hI
      refine pr_callVi hA [.int (σ 1 (264 + 28 * r + (15 + (σ 1 (264 + 28 * r + 14)).toNatClampNeg)))] (c_m_ax (m := m) (σ := σ) (n := (mtn σ)) (x := (σ 1 (264 + 28 * r + (15 + (σ 1 (264 + 28 * r + 14)).toNatClampNeg)))) (pr_hl hA) hm (mI_n hv48) (mI_n5 hv48) (by assumption)) v_X8_209 (mo_k0 hm) (by decide) rfl rfl rfl (by decide) (Nat.zero_le _) (Nat.zero_le _) rfl (Nat.le_of_ble_eq_true rfl) dX8_forward_48 ?_
      refine pr_aload_n hA dX8_forward_51 rfl ?_
      refine pr_iload_n hA dX8_forward_52 rfl ?_
      refine pr_iconst hA (2) dX8_forward_53 (by decide) ?_
      refine pr_callVi hA [.int (nI r), .int (2 : Int32)] (c_m_req (m := m) (k := r) (c := 2) (σ := σ) (pr_hl hA) hm (by omega) (by omega)) v_X8_229 (mo_k0 hm) (by decide) rfl rfl rfl (by decide) (Nat.zero_le _) (Nat.zero_le _) rfl (Nat.le_of_ble_eq_true rfl) dX8_forward_54 ?_
      refine pr_icmp_lt hA 73 dX8_forward_57 (by decide) (fun c_57 => ?_) (fun c_57 => ?_)
      · refine pr_aload_n hA dX8_forward_73 rfl ?_
        refine pr_iload_n hA dX8_forward_74 rfl ?_
        refine pr_iload_n hA dX8_forward_75 rfl ?_
        have hv76 : mI σ := hI
        refine pr_callVv hA [.int (nI r), .int (σ 1 (264 + 28 * r + (15 + (σ 1 (264 + 28 * r + 14)).toNatClampNeg)))] (c_m_fa (m := m) (σ := σ) (r := r) (x := (σ 1 (264 + 28 * r + (15 + (σ 1 (264 + 28 * r + 14)).toNatClampNeg)))) (pr_hl hA) hm hv76 (by first | omega | assumption) (by first | omega | assumption)) v_X8_245 (mo_k0 hm) (by decide) rfl rfl rfl (by decide) (Nat.zero_le _) (Nat.zero_le _) rfl (Nat.le_of_ble_eq_true rfl) dX8_forward_76 ?_
        exact pr_return hA rfl (Nat.zero_le _) (Nat.zero_le _) dX8_forward_79 ⟨rfl, rfl, (by simp only [m_fw, if_neg c_16, if_neg c_43, if_pos c_57]), rfl⟩
      · refine pr_aload_n hA dX8_forward_60 rfl ?_
        refine pr_getR hA f_X8_9 rfl (mo_k0 hm) (mo_f0_0 hm) dX8_forward_61 ?_
        refine pr_bipush hA (nI 9) dX8_forward_64 (by decide) ?_
        refine pr_ialdM (v := (nI (mtn σ))) hA (mo_k1 hm) (by omega) (by omega) ((rg_val (by decide)).trans (mI_n hI)) dX8_forward_66 ?_
        refine pr_sipush hA (nI 500) dX8_forward_67 (by decide) ?_
        refine pr_icmp_lt hA 80 dX8_forward_70 (by decide) (fun c_70 => ?_) (fun c_70 => ?_)
        · have n_70 : (mtn σ) < 500 := (nI_ltI (by omega) (by omega)).mp c_70
          refine pr_aload_n hA dX8_forward_80 rfl ?_
          refine pr_iload_n hA dX8_forward_81 rfl ?_
          refine pr_iload_n hA dX8_forward_82 rfl ?_
          have hv83 : mI σ := hI
          refine pr_callVv hA [.int (nI r), .int (σ 1 (264 + 28 * r + (15 + (σ 1 (264 + 28 * r + 14)).toNatClampNeg)))] (c_m_is (m := m) (σ := σ) (r := r) (x := (σ 1 (264 + 28 * r + (15 + (σ 1 (264 + 28 * r + 14)).toNatClampNeg)))) (pr_hl hA) hm hv83 (by first | omega | assumption) (by first | omega | assumption) (by first | omega | assumption)) v_X8_248 (mo_k0 hm) (by decide) rfl rfl rfl (by decide) (Nat.zero_le _) (Nat.zero_le _) rfl (Nat.le_of_ble_eq_true rfl) dX8_forward_83 ?_
          refine pr_aload_n hA dX8_forward_86 rfl ?_
          refine pr_iload_n hA dX8_forward_87 rfl ?_
          refine pr_iload_n hA dX8_forward_88 rfl ?_
          refine pr_iconst hA (1) dX8_forward_89 (by decide) ?_
          refine pr_iadd hA dX8_forward_90 ?_
          refine pr_iload_n hA dX8_forward_91 rfl ?_
          have hv92 : mI (m_is σ r (σ 1 (264 + 28 * r + (15 + (σ 1 (264 + 28 * r + 14)).toNatClampNeg)))) := (mI_m_is (σ := σ) (r := r) (x := (σ 1 (264 + 28 * r + (15 + (σ 1 (264 + 28 * r + 14)).toNatClampNeg)))) (by omega) (by assumption) (by omega) hI)
          refine pr_callVv hA [.int (nI r), .int ((σ 1 (264 + 28 * r + 14)) + (1 : Int32)), .int (σ 1 (264 + 28 * r + (15 + (σ 1 (264 + 28 * r + 14)).toNatClampNeg)))] (c_m_go (m := m) (σ := (m_is σ r (σ 1 (264 + 28 * r + (15 + (σ 1 (264 + 28 * r + 14)).toNatClampNeg))))) (r := r) (z := ((σ 1 (264 + 28 * r + 14)) + (1 : Int32))) (x := (σ 1 (264 + 28 * r + (15 + (σ 1 (264 + 28 * r + 14)).toNatClampNeg)))) (pr_hl hA) hm hv92 (by first | omega | assumption) (by first | omega | assumption)) v_X8_251 (mo_k0 hm) (by decide) rfl rfl rfl (by decide) (Nat.zero_le _) (Nat.zero_le _) rfl (Nat.le_of_ble_eq_true rfl) dX8_forward_92 ?_
          exact pr_return hA rfl (Nat.zero_le _) (Nat.zero_le _) dX8_forward_95 ⟨rfl, rfl, (by simp only [m_fw, if_neg c_16, if_neg c_43, if_neg c_57, if_pos c_70]), rfl⟩
        · have n_70 : ¬ (mtn σ) < 500 := fun q => c_70 ((nI_ltI (by omega) (by omega)).mpr q)
          refine pr_aload_n hA dX8_forward_73 rfl ?_
          refine pr_iload_n hA dX8_forward_74 rfl ?_
          refine pr_iload_n hA dX8_forward_75 rfl ?_
          have hv76 : mI σ := hI
          refine pr_callVv hA [.int (nI r), .int (σ 1 (264 + 28 * r + (15 + (σ 1 (264 + 28 * r + 14)).toNatClampNeg)))] (c_m_fa (m := m) (σ := σ) (r := r) (x := (σ 1 (264 + 28 * r + (15 + (σ 1 (264 + 28 * r + 14)).toNatClampNeg)))) (pr_hl hA) hm hv76 (by first | omega | assumption) (by first | omega | assumption)) v_X8_245 (mo_k0 hm) (by decide) rfl rfl rfl (by decide) (Nat.zero_le _) (Nat.zero_le _) rfl (Nat.le_of_ble_eq_true rfl) dX8_forward_76 ?_
          exact pr_return hA rfl (Nat.zero_le _) (Nat.zero_le _) dX8_forward_79 ⟨rfl, rfl, (by simp only [m_fw, if_neg c_16, if_neg c_43, if_neg c_57, if_neg c_70]), rfl⟩
  · refine pr_aload_n hA dX8_forward_19 rfl ?_
    refine pr_iload_n hA dX8_forward_20 rfl ?_
    refine pr_iconst hA (4) dX8_forward_21 (by decide) ?_
    refine pr_iconst hA (1) dX8_forward_22 (by decide) ?_
    refine pr_callVv hA [.int (nI r), .int (4 : Int32), .int (1 : Int32)] (c_m_putReq (m := m) (k := r) (c := 4) (σ := σ) (pr_hl hA) hm (by omega) (by omega)) v_X8_238 (mo_k0 hm) (by decide) rfl rfl rfl (by decide) (Nat.zero_le _) (Nat.zero_le _) rfl (Nat.le_of_ble_eq_true rfl) dX8_forward_23 ?_
    exact pr_return hA rfl (Nat.zero_le _) (Nat.zero_le _) dX8_forward_26 ⟨rfl, rfl, (by simp only [m_fw, if_pos c_16]), rfl⟩

theorem fr_m_fw {σ : pr_I} {r : Nat} {o : Nat} (hms : ∀ m ∈ ([1] : List Nat), o ≠ m) : m_fw σ r o = σ o := by
  unfold m_fw
  simp only [List.mem_cons, List.not_mem_nil, or_false, forall_eq_or_imp, forall_eq] at hms
  by_cases c_16 : (σ 1 (264 + 28 * r + 14)) = (σ 1 (264 + 28 * r + 13))
  · refine (congrFun (if_pos c_16) o).trans ?_
    rw [pr_up_ne (by omega)]
  · refine (congrFun (if_neg c_16) o).trans ?_
    by_cases c_43 : (σ 1 (96 + 7 * ((σ 1 (264 + 28 * r + (15 + (σ 1 (264 + 28 * r + 14)).toNatClampNeg))).toNatClampNeg) + 5)) = 0
    · refine (congrFun (if_pos c_43) o).trans ?_
      rw [fr_m_fa (by simp only [List.mem_cons, List.not_mem_nil, or_false, forall_eq_or_imp, forall_eq]; omega)]
    · refine (congrFun (if_neg c_43) o).trans ?_
      by_cases c_57 : (m_ax_r σ (mtn σ) (σ 1 (264 + 28 * r + (15 + (σ 1 (264 + 28 * r + 14)).toNatClampNeg)))) < (σ 1 (264 + 28 * r + 2))
      · refine (congrFun (if_pos c_57) o).trans ?_
        rw [fr_m_fa (by simp only [List.mem_cons, List.not_mem_nil, or_false, forall_eq_or_imp, forall_eq]; omega)]
      · refine (congrFun (if_neg c_57) o).trans ?_
        by_cases c_70 : (nI (mtn σ)) < (nI 500)
        · refine (congrFun (if_pos c_70) o).trans ?_
          rw [fr_m_go (by simp only [List.mem_cons, List.not_mem_nil, or_false, forall_eq_or_imp, forall_eq]; omega), fr_m_is (by simp only [List.mem_cons, List.not_mem_nil, or_false, forall_eq_or_imp, forall_eq]; omega)]
        · refine (congrFun (if_neg c_70) o).trans ?_
          rw [fr_m_fa (by simp only [List.mem_cons, List.not_mem_nil, or_false, forall_eq_or_imp, forall_eq]; omega)]

theorem fw_m_fw {σ : pr_I} {r : Nat} {j0 : Nat} (hj : j0 < 12) (hmw : ∀ m ∈ ([9] : List Nat), j0 ≠ m) : m_fw σ r 1 j0 = σ 1 j0 := by
  simp only [List.mem_cons, List.not_mem_nil, or_false, forall_eq_or_imp, forall_eq] at hmw
  unfold m_fw
  by_cases c_16 : (σ 1 (264 + 28 * r + 14)) = (σ 1 (264 + 28 * r + 13))
  · rw [if_pos c_16]
    exact (pr_upk (by omega))
  · rw [if_neg c_16]
    by_cases c_43 : (σ 1 (96 + 7 * ((σ 1 (264 + 28 * r + (15 + (σ 1 (264 + 28 * r + 14)).toNatClampNeg))).toNatClampNeg) + 5)) = 0
    · rw [if_pos c_43]
      exact (fw_m_fa hj (fun m hm => by cases hm))
    · rw [if_neg c_43]
      by_cases c_57 : (m_ax_r σ (mtn σ) (σ 1 (264 + 28 * r + (15 + (σ 1 (264 + 28 * r + 14)).toNatClampNeg)))) < (σ 1 (264 + 28 * r + 2))
      · rw [if_pos c_57]
        exact (fw_m_fa hj (fun m hm => by cases hm))
      · rw [if_neg c_57]
        by_cases c_70 : (nI (mtn σ)) < (nI 500)
        · rw [if_pos c_70]
          exact ((fw_m_go hj (fun m hm => by cases hm)).trans (fw_m_is hj (by simp only [List.mem_cons, List.not_mem_nil, or_false, forall_eq_or_imp, forall_eq]; omega)))
        · rw [if_neg c_70]
          exact (fw_m_fa hj (fun m hm => by cases hm))
noncomputable def m_ear_r (σ : pr_I) (a : Int32) (b : Int32) : Int32 := (if a = ((-1) : Int32) then b else (if b = ((-1) : Int32) then a else (if b < a then b else a)))
set_option maxRecDepth 100000 in
set_option maxHeartbeats 400000 in
theorem c_m_ear {g : pr_C} {l : Launch} (hl : l.stackTraces = false) {T : pr_T} {I : pr_I} {L : pr_L} {m : Nat} {σ : pr_I} {a : Int32} {b : Int32} (hm : pr_Mo T m) (hI : mI σ) : pr_M g l 2 0 0 mX8_earlier [.ref m, .int a, .int b] T (rg_put I m 16 σ) L (pr_R (some (.int (m_ear_r σ a b))) T (rg_put I m 16 σ) L) pr_no := by
  refine pr_ofG (by decide) rfl hl (Nat.le_of_ble_eq_true rfl) (fun X hA hX hXn hXt => ?_)
  subst hX
  show pr_G g X mX8_earlier.2.2.1 _ 0 0 0 [.ref m, .int a, .int b] [] T (rg_put I m 16 σ) L
  have hn5 := mI_n5 hI
  have hr4 := mI_nr4 hI
  have hl24 := mI_nl24 hI
  have hn12 := mI_nn12 hI
  refine pr_iload_n hA dX8_earlier_0 rfl ?_
  refine pr_iconst hA ((-1)) dX8_earlier_1 (by decide) ?_
  refine pr_join (c := a = ((-1) : Int32)) (J := 23) (st := []) b (if b = ((-1) : Int32) then a else (if b < a then b else a)) inferInstance (fun kt kf => ?_) ?_
  · refine pr_icmp_ne hA 9 dX8_earlier_2 (by decide) (fun c_2 => ?_) (fun c_2 => ?_)
    · refine pr_iload_n hA dX8_earlier_9 rfl ?_
      refine pr_iconst hA ((-1)) dX8_earlier_10 (by decide) ?_
      refine pr_join (c := b = ((-1) : Int32)) (J := 23) (st := []) a (if b < a then b else a) inferInstance (fun kt kf => ?_) ?_
      · refine pr_icmp_ne hA 18 dX8_earlier_11 (by decide) (fun c_11 => ?_) (fun c_11 => ?_)
        · refine pr_iload_n hA dX8_earlier_18 rfl ?_
          refine pr_iload_n hA dX8_earlier_19 rfl ?_
          refine pr_mmin hA rfl ⟨kM_X8_279, kT_J9_min_7cf53, kZ_J9, kO_J9_min_7cf53⟩ (by decide) (Nat.zero_le _) (Nat.zero_le _) (Nat.le_of_ble_eq_true rfl) dX8_earlier_20 ?_
          exact kf c_11
        · refine pr_iload_n hA dX8_earlier_14 rfl ?_
          refine pr_goto hA 23 dX8_earlier_15 (by decide) ?_
          exact kt c_11
      · exact kf c_2
    · refine pr_iload_n hA dX8_earlier_5 rfl ?_
      refine pr_goto hA 23 dX8_earlier_6 (by decide) ?_
      exact kt c_2
  · exact pr_ireturn hA rfl rfl (Nat.zero_le _) (Nat.zero_le _) dX8_earlier_23 ⟨rfl, rfl, rfl, rfl⟩

noncomputable def m_nx_it4 (σ : pr_I) : Nat → Int32
  | 0 => ((-1) : Int32)
  | k + 1 => (if (σ 1 (1384 + 8 * k + 5)) = 0 then (m_ear_r σ (m_nx_it4 σ k) (σ 1 (1384 + 8 * k + 4))) else (m_nx_it4 σ k))
noncomputable def m_nx_r (σ : pr_I) : Int32 := (m_nx_it4 σ (mtn σ))
set_option maxRecDepth 100000 in
set_option maxHeartbeats 400000 in
theorem c_m_nx {g : pr_C} {l : Launch} (hl : l.stackTraces = false) {T : pr_T} {I : pr_I} {L : pr_L} {m : Nat} {σ : pr_I}  (hm : pr_Mo T m) (hI : mI σ) : pr_M g l 4 0 0 mX8_nextExpiryNow [.ref m] T (rg_put I m 16 σ) L (pr_R (some (.int (m_nx_r σ))) T (rg_put I m 16 σ) L) pr_no := by
  refine pr_ofG (by decide) rfl hl (Nat.le_of_ble_eq_true rfl) (fun X hA hX hXn hXt => ?_)
  subst hX
  show pr_G g X mX8_nextExpiryNow.2.2.1 _ 0 0 0 [.ref m, .null, .null] [] T (rg_put I m 16 σ) L
  have hn5 := mI_n5 hI
  have hr4 := mI_nr4 hI
  have hl24 := mI_nl24 hI
  have hn12 := mI_nn12 hI
  refine pr_iconst hA ((-1)) dX8_nextExpiryNow_0 (by decide) ?_
  refine pr_istore_n (ls' := [_, _, _]) hA dX8_nextExpiryNow_1 (by decide) rfl ?_
  refine pr_iconst hA (nI 0) dX8_nextExpiryNow_2 (by decide) ?_
  refine pr_istore_n (ls' := [_, _, _]) hA dX8_nextExpiryNow_3 (by decide) rfl ?_
  have lp4 : ∀ (j k : Nat), (mtn σ) - k = j → k ≤ (mtn σ) → pr_G g X mX8_nextExpiryNow.2.2.1 (pr_MQ g X (pr_R (some (.int (m_nx_r σ))) T (rg_put I m 16 σ) L) pr_no 0 0) 0 0 4 [.ref m, .int (m_nx_it4 σ k), .int (nI k)] [] T (rg_put I m 16 σ) L := by
    intro j
    induction j using Nat.strongRecOn with | ind j ih4 =>
    intro k hj4 hk4
    refine pr_iload_n hA dX8_nextExpiryNow_4 rfl ?_
    refine pr_aload_n hA dX8_nextExpiryNow_5 rfl ?_
    refine pr_getR hA f_X8_9 rfl (mo_k0 hm) (mo_f0_0 hm) dX8_nextExpiryNow_6 ?_
    refine pr_bipush hA (nI 9) dX8_nextExpiryNow_9 (by decide) ?_
    refine pr_ialdM (v := (nI (mtn σ))) hA (mo_k1 hm) (by omega) (by omega) ((rg_val (by decide)).trans (mI_n hI)) dX8_nextExpiryNow_11 ?_
    refine pr_icmp_ge hA 42 dX8_nextExpiryNow_12 (by decide) (fun c_12 => ?_) (fun c_12 => ?_)
    · have n_12 : (mtn σ) ≤ k := (nI_leI (by omega) (by omega)).mp c_12
      have hex : (mtn σ) = k := by omega
      subst hex
      refine pr_iload_n hA dX8_nextExpiryNow_42 rfl ?_
      exact pr_ireturn hA rfl rfl (Nat.zero_le _) (Nat.zero_le _) dX8_nextExpiryNow_43 ⟨rfl, rfl, rfl, rfl⟩
    · have n_12 : ¬ (mtn σ) ≤ k := fun q => c_12 ((nI_leI (by omega) (by omega)).mpr q)
      refine pr_aload_n hA dX8_nextExpiryNow_15 rfl ?_
      refine pr_iload_n hA dX8_nextExpiryNow_16 rfl ?_
      refine pr_iconst hA (5) dX8_nextExpiryNow_17 (by decide) ?_
      refine pr_callVi hA [.int (nI k), .int (5 : Int32)] (c_m_tick (m := m) (k := k) (c := 5) (σ := σ) (pr_hl hA) hm (by omega) (by omega)) v_X8_197 (mo_k0 hm) (by decide) rfl rfl rfl (by decide) (Nat.zero_le _) (Nat.zero_le _) rfl (Nat.le_of_ble_eq_true rfl) dX8_nextExpiryNow_18 ?_
      refine pr_if_ne hA 36 dX8_nextExpiryNow_21 (by decide) (fun c_21 => ?_) (fun c_21 => ?_)
      · refine pr_iinc (ls' := [_, _, _]) hA (nI (k + 1)) dX8_nextExpiryNow_36 (by decide) rfl (nI_inc _) rfl ?_
        refine pr_goto hA 4 dX8_nextExpiryNow_39 (by decide) ?_
        have hb := ih4 ((mtn σ) - (k + 1)) (by omega) (k + 1) rfl (by omega)
        simp only [m_nx_it4, if_neg c_21] at hb
        exact hb
      · refine pr_aload_n hA dX8_nextExpiryNow_24 rfl ?_
        refine pr_iload_n hA dX8_nextExpiryNow_25 rfl ?_
        refine pr_aload_n hA dX8_nextExpiryNow_26 rfl ?_
        refine pr_iload_n hA dX8_nextExpiryNow_27 rfl ?_
        refine pr_iconst hA (4) dX8_nextExpiryNow_28 (by decide) ?_
        refine pr_callVi hA [.int (nI k), .int (4 : Int32)] (c_m_tick (m := m) (k := k) (c := 4) (σ := σ) (pr_hl hA) hm (by omega) (by omega)) v_X8_197 (mo_k0 hm) (by decide) rfl rfl rfl (by decide) (Nat.zero_le _) (Nat.zero_le _) rfl (Nat.le_of_ble_eq_true rfl) dX8_nextExpiryNow_29 ?_
        have hv32 : mI σ := hI
        refine pr_callVi hA [.int (m_nx_it4 σ k), .int (σ 1 (1384 + 8 * k + 4))] (c_m_ear (m := m) (σ := σ) (a := (m_nx_it4 σ k)) (b := (σ 1 (1384 + 8 * k + 4))) (pr_hl hA) hm hv32) v_X8_281 (mo_k0 hm) (by decide) rfl rfl rfl (by decide) (Nat.zero_le _) (Nat.zero_le _) rfl (Nat.le_of_ble_eq_true rfl) dX8_nextExpiryNow_32 ?_
        refine pr_istore_n (ls' := [_, _, _]) hA dX8_nextExpiryNow_35 (by decide) rfl ?_
        refine pr_iinc (ls' := [_, _, _]) hA (nI (k + 1)) dX8_nextExpiryNow_36 (by decide) rfl (nI_inc _) rfl ?_
        refine pr_goto hA 4 dX8_nextExpiryNow_39 (by decide) ?_
        have hb := ih4 ((mtn σ) - (k + 1)) (by omega) (k + 1) rfl (by omega)
        simp only [m_nx_it4, if_pos c_21] at hb
        exact hb
  exact (lp4 ((mtn σ) - 0) 0 rfl (by omega))

noncomputable def m_ne_it7 (σ : pr_I) : Nat → Int32
  | 0 => (m_nx_r σ)
  | k + 1 => (if (σ 1 (264 + 28 * k + 4)) = (2 : Int32) then (m_ear_r σ (m_ear_r σ (m_ne_it7 σ k) (σ 1 (264 + 28 * k + 6))) (σ 1 (264 + 28 * k + 11))) else (m_ear_r σ (m_ne_it7 σ k) (σ 1 (264 + 28 * k + 6))))
noncomputable def m_ne_r (σ : pr_I) : Int32 := (m_ne_it7 σ (mrn σ))
set_option maxRecDepth 100000 in
set_option maxHeartbeats 400000 in
theorem c_m_ne {g : pr_C} {l : Launch} (hl : l.stackTraces = false) {T : pr_T} {I : pr_I} {L : pr_L} {m : Nat} {σ : pr_I}  (hm : pr_Mo T m) (hI : mI σ) : pr_M g l 5 0 0 mX8_nextEventNow [.ref m] T (rg_put I m 16 σ) L (pr_R (some (.int (m_ne_r σ))) T (rg_put I m 16 σ) L) pr_no := by
  refine pr_ofG (by decide) rfl hl (Nat.le_of_ble_eq_true rfl) (fun X hA hX hXn hXt => ?_)
  subst hX
  show pr_G g X mX8_nextEventNow.2.2.1 _ 0 0 0 [.ref m, .null, .null] [] T (rg_put I m 16 σ) L
  have hn5 := mI_n5 hI
  have hr4 := mI_nr4 hI
  have hl24 := mI_nl24 hI
  have hn12 := mI_nn12 hI
  refine pr_aload_n hA dX8_nextEventNow_0 rfl ?_
  have hv1 : mI σ := hI
  refine pr_callVi hA [] (c_m_nx (m := m) (σ := σ) (pr_hl hA) hm hv1) v_X8_284 (mo_k0 hm) (by decide) rfl rfl rfl (by decide) (Nat.zero_le _) (Nat.zero_le _) rfl (Nat.le_of_ble_eq_true rfl) dX8_nextEventNow_1 ?_
  refine pr_istore_n (ls' := [_, _, _]) hA dX8_nextEventNow_4 (by decide) rfl ?_
  refine pr_iconst hA (nI 0) dX8_nextEventNow_5 (by decide) ?_
  refine pr_istore_n (ls' := [_, _, _]) hA dX8_nextEventNow_6 (by decide) rfl ?_
  have lp7 : ∀ (j k : Nat), (mrn σ) - k = j → k ≤ (mrn σ) → pr_G g X mX8_nextEventNow.2.2.1 (pr_MQ g X (pr_R (some (.int (m_ne_r σ))) T (rg_put I m 16 σ) L) pr_no 0 0) 0 0 7 [.ref m, .int (m_ne_it7 σ k), .int (nI k)] [] T (rg_put I m 16 σ) L := by
    intro j
    induction j using Nat.strongRecOn with | ind j ih7 =>
    intro k hj7 hk7
    refine pr_iload_n hA dX8_nextEventNow_7 rfl ?_
    refine pr_aload_n hA dX8_nextEventNow_8 rfl ?_
    refine pr_getR hA f_X8_9 rfl (mo_k0 hm) (mo_f0_0 hm) dX8_nextEventNow_9 ?_
    refine pr_bipush hA (nI 8) dX8_nextEventNow_12 (by decide) ?_
    refine pr_ialdM (v := (nI (mrn σ))) hA (mo_k1 hm) (by omega) (by omega) ((rg_val (by decide)).trans (mI_nr hI)) dX8_nextEventNow_14 ?_
    refine pr_icmp_ge hA 60 dX8_nextEventNow_15 (by decide) (fun c_15 => ?_) (fun c_15 => ?_)
    · have n_15 : (mrn σ) ≤ k := (nI_leI (by omega) (by omega)).mp c_15
      have hex : (mrn σ) = k := by omega
      subst hex
      refine pr_iload_n hA dX8_nextEventNow_60 rfl ?_
      exact pr_ireturn hA rfl rfl (Nat.zero_le _) (Nat.zero_le _) dX8_nextEventNow_61 ⟨rfl, rfl, rfl, rfl⟩
    · have n_15 : ¬ (mrn σ) ≤ k := fun q => c_15 ((nI_leI (by omega) (by omega)).mpr q)
      refine pr_aload_n hA dX8_nextEventNow_18 rfl ?_
      refine pr_iload_n hA dX8_nextEventNow_19 rfl ?_
      refine pr_aload_n hA dX8_nextEventNow_20 rfl ?_
      refine pr_iload_n hA dX8_nextEventNow_21 rfl ?_
      refine pr_bipush hA (6) dX8_nextEventNow_22 (by decide) ?_
      refine pr_callVi hA [.int (nI k), .int (6 : Int32)] (c_m_req (m := m) (k := k) (c := 6) (σ := σ) (pr_hl hA) hm (by omega) (by omega)) v_X8_229 (mo_k0 hm) (by decide) rfl rfl rfl (by decide) (Nat.zero_le _) (Nat.zero_le _) rfl (Nat.le_of_ble_eq_true rfl) dX8_nextEventNow_24 ?_
      have hv27 : mI σ := hI
      refine pr_callVi hA [.int (m_ne_it7 σ k), .int (σ 1 (264 + 28 * k + 6))] (c_m_ear (m := m) (σ := σ) (a := (m_ne_it7 σ k)) (b := (σ 1 (264 + 28 * k + 6))) (pr_hl hA) hm hv27) v_X8_281 (mo_k0 hm) (by decide) rfl rfl rfl (by decide) (Nat.zero_le _) (Nat.zero_le _) rfl (Nat.le_of_ble_eq_true rfl) dX8_nextEventNow_27 ?_
      refine pr_istore_n (ls' := [_, _, _]) hA dX8_nextEventNow_30 (by decide) rfl ?_
      refine pr_aload_n hA dX8_nextEventNow_31 rfl ?_
      refine pr_iload_n hA dX8_nextEventNow_32 rfl ?_
      refine pr_iconst hA (4) dX8_nextEventNow_33 (by decide) ?_
      refine pr_callVi hA [.int (nI k), .int (4 : Int32)] (c_m_req (m := m) (k := k) (c := 4) (σ := σ) (pr_hl hA) hm (by omega) (by omega)) v_X8_229 (mo_k0 hm) (by decide) rfl rfl rfl (by decide) (Nat.zero_le _) (Nat.zero_le _) rfl (Nat.le_of_ble_eq_true rfl) dX8_nextEventNow_34 ?_
      refine pr_iconst hA (2) dX8_nextEventNow_37 (by decide) ?_
      refine pr_icmp_ne hA 54 dX8_nextEventNow_38 (by decide) (fun c_38 => ?_) (fun c_38 => ?_)
      · refine pr_iinc (ls' := [_, _, _]) hA (nI (k + 1)) dX8_nextEventNow_54 (by decide) rfl (nI_inc _) rfl ?_
        refine pr_goto hA 7 dX8_nextEventNow_57 (by decide) ?_
        have hb := ih7 ((mrn σ) - (k + 1)) (by omega) (k + 1) rfl (by omega)
        simp only [m_ne_it7, if_neg c_38] at hb
        exact hb
      · refine pr_aload_n hA dX8_nextEventNow_41 rfl ?_
        refine pr_iload_n hA dX8_nextEventNow_42 rfl ?_
        refine pr_aload_n hA dX8_nextEventNow_43 rfl ?_
        refine pr_iload_n hA dX8_nextEventNow_44 rfl ?_
        refine pr_bipush hA (11) dX8_nextEventNow_45 (by decide) ?_
        refine pr_callVi hA [.int (nI k), .int (11 : Int32)] (c_m_req (m := m) (k := k) (c := 11) (σ := σ) (pr_hl hA) hm (by omega) (by omega)) v_X8_229 (mo_k0 hm) (by decide) rfl rfl rfl (by decide) (Nat.zero_le _) (Nat.zero_le _) rfl (Nat.le_of_ble_eq_true rfl) dX8_nextEventNow_47 ?_
        have hv50 : mI σ := hI
        refine pr_callVi hA [.int (m_ear_r σ (m_ne_it7 σ k) (σ 1 (264 + 28 * k + 6))), .int (σ 1 (264 + 28 * k + 11))] (c_m_ear (m := m) (σ := σ) (a := (m_ear_r σ (m_ne_it7 σ k) (σ 1 (264 + 28 * k + 6)))) (b := (σ 1 (264 + 28 * k + 11))) (pr_hl hA) hm hv50) v_X8_281 (mo_k0 hm) (by decide) rfl rfl rfl (by decide) (Nat.zero_le _) (Nat.zero_le _) rfl (Nat.le_of_ble_eq_true rfl) dX8_nextEventNow_50 ?_
        refine pr_istore_n (ls' := [_, _, _]) hA dX8_nextEventNow_53 (by decide) rfl ?_
        refine pr_iinc (ls' := [_, _, _]) hA (nI (k + 1)) dX8_nextEventNow_54 (by decide) rfl (nI_inc _) rfl ?_
        refine pr_goto hA 7 dX8_nextEventNow_57 (by decide) ?_
        have hb := ih7 ((mrn σ) - (k + 1)) (by omega) (k + 1) rfl (by omega)
        simp only [m_ne_it7, if_pos c_38] at hb
        exact hb
  exact (lp7 ((mrn σ) - 0) 0 rfl (by omega))

noncomputable def m_po_r (σ : pr_I) (z : Int32) : Int32 := (if (m_ne_r σ) = ((-1) : Int32) then z else (if (0 : Int32) < (if (((m_ne_r σ) - (σ 1 0)) - (1 : Int32)) < z then (((m_ne_r σ) - (σ 1 0)) - (1 : Int32)) else z) then (if (((m_ne_r σ) - (σ 1 0)) - (1 : Int32)) < z then (((m_ne_r σ) - (σ 1 0)) - (1 : Int32)) else z) else (0 : Int32)))
noncomputable def m_po (σ : pr_I) (z : Int32) : pr_I := (pr_up σ 1 0 ((σ 1 0) + (if (m_ne_r σ) = ((-1) : Int32) then z else (if (0 : Int32) < (if (((m_ne_r σ) - (σ 1 0)) - (1 : Int32)) < z then (((m_ne_r σ) - (σ 1 0)) - (1 : Int32)) else z) then (if (((m_ne_r σ) - (σ 1 0)) - (1 : Int32)) < z then (((m_ne_r σ) - (σ 1 0)) - (1 : Int32)) else z) else (0 : Int32)))))
set_option maxRecDepth 100000 in
set_option maxHeartbeats 400000 in
theorem c_m_po {g : pr_C} {l : Launch} (hl : l.stackTraces = false) {T : pr_T} {I : pr_I} {L : pr_L} {m : Nat} {σ : pr_I} {z : Int32} (hm : pr_Mo T m) (hI : mI σ) : pr_M g l 6 0 0 mX8_passesOver [.ref m, .int z] T (rg_put I m 16 σ) L (pr_R (some (.int (m_po_r σ z))) T (rg_put I m 16 (m_po σ z)) L) pr_no := by
  refine pr_ofG (by decide) rfl hl (Nat.le_of_ble_eq_true rfl) (fun X hA hX hXn hXt => ?_)
  subst hX
  show pr_G g X mX8_passesOver.2.2.1 _ 0 0 0 [.ref m, .int z, .null, .null] [] T (rg_put I m 16 σ) L
  have hn5 := mI_n5 hI
  have hr4 := mI_nr4 hI
  have hl24 := mI_nl24 hI
  have hn12 := mI_nn12 hI
  refine pr_aload_n hA dX8_passesOver_0 rfl ?_
  have hv1 : mI σ := hI
  refine pr_callVi hA [] (c_m_ne (m := m) (σ := σ) (pr_hl hA) hm hv1) v_X8_287 (mo_k0 hm) (by decide) rfl rfl rfl (by decide) (Nat.zero_le _) (Nat.zero_le _) rfl (Nat.le_of_ble_eq_true rfl) dX8_passesOver_1 ?_
  refine pr_istore_n (ls' := [_, _, _, _]) hA dX8_passesOver_4 (by decide) rfl ?_
  refine pr_iload_n hA dX8_passesOver_5 rfl ?_
  refine pr_iconst hA ((-1)) dX8_passesOver_6 (by decide) ?_
  refine pr_join (c := (m_ne_r σ) = ((-1) : Int32)) (J := 32) (st := []) z (if (0 : Int32) < (if (((m_ne_r σ) - (σ 1 0)) - (1 : Int32)) < z then (((m_ne_r σ) - (σ 1 0)) - (1 : Int32)) else z) then (if (((m_ne_r σ) - (σ 1 0)) - (1 : Int32)) < z then (((m_ne_r σ) - (σ 1 0)) - (1 : Int32)) else z) else (0 : Int32)) inferInstance (fun kt kf => ?_) ?_
  · refine pr_icmp_ne hA 14 dX8_passesOver_7 (by decide) (fun c_7 => ?_) (fun c_7 => ?_)
    · refine pr_iconst hA (0) dX8_passesOver_14 (by decide) ?_
      refine pr_iload_n hA dX8_passesOver_15 rfl ?_
      refine pr_iload_n hA dX8_passesOver_16 rfl ?_
      refine pr_aload_n hA dX8_passesOver_17 rfl ?_
      refine pr_getR hA f_X8_9 rfl (mo_k0 hm) (mo_f0_0 hm) dX8_passesOver_18 ?_
      refine pr_iconst hA (nI 0) dX8_passesOver_21 (by decide) ?_
      refine pr_ialdM (v := (σ 1 0)) hA (mo_k1 hm) (by omega) (by omega) (rg_val (by decide)) dX8_passesOver_22 ?_
      refine pr_isub hA dX8_passesOver_23 ?_
      refine pr_iconst hA (1) dX8_passesOver_24 (by decide) ?_
      refine pr_isub hA dX8_passesOver_25 ?_
      refine pr_mmin hA rfl ⟨kM_X8_279, kT_J9_min_7cf53, kZ_J9, kO_J9_min_7cf53⟩ (by decide) (Nat.zero_le _) (Nat.zero_le _) (Nat.le_of_ble_eq_true rfl) dX8_passesOver_26 ?_
      refine pr_mmax hA rfl ⟨kM_X8_290, kT_J9_max_7cf53, kZ_J9, kO_J9_max_7cf53⟩ (by decide) (Nat.zero_le _) (Nat.zero_le _) (Nat.le_of_ble_eq_true rfl) dX8_passesOver_29 ?_
      exact kf c_7
    · refine pr_iload_n hA dX8_passesOver_10 rfl ?_
      refine pr_goto hA 32 dX8_passesOver_11 (by decide) ?_
      exact kt c_7
  · refine pr_istore_n (ls' := [_, _, _, _]) hA dX8_passesOver_32 (by decide) rfl ?_
    refine pr_aload_n hA dX8_passesOver_33 rfl ?_
    refine pr_getR hA f_X8_9 rfl (mo_k0 hm) (mo_f0_0 hm) dX8_passesOver_34 ?_
    refine pr_iconst hA (nI 0) dX8_passesOver_37 (by decide) ?_
    refine pr_dup2 hA dX8_passesOver_38 rfl rfl ?_
    refine pr_ialdM (v := (σ 1 0)) hA (mo_k1 hm) (by omega) (by omega) (rg_val (by decide)) dX8_passesOver_39 ?_
    refine pr_iload_n hA dX8_passesOver_40 rfl ?_
    refine pr_iadd hA dX8_passesOver_41 ?_
    refine pr_iastM (I' := (rg_put I m 16 (pr_up σ 1 0 ((σ 1 0) + (if (m_ne_r σ) = ((-1) : Int32) then z else (if (0 : Int32) < (if (((m_ne_r σ) - (σ 1 0)) - (1 : Int32)) < z then (((m_ne_r σ) - (σ 1 0)) - (1 : Int32)) else z) then (if (((m_ne_r σ) - (σ 1 0)) - (1 : Int32)) < z then (((m_ne_r σ) - (σ 1 0)) - (1 : Int32)) else z) else (0 : Int32))))))) hA (mo_k1 hm) (by omega) (by omega) (rg_up (by decide)) dX8_passesOver_42 ?_
    refine pr_iload_n hA dX8_passesOver_43 rfl ?_
    exact pr_ireturn hA rfl rfl (Nat.zero_le _) (Nat.zero_le _) dX8_passesOver_44 ⟨rfl, rfl, rfl, rfl⟩

theorem fr_m_po {σ : pr_I} {z : Int32} {o : Nat} (hms : ∀ m ∈ ([1] : List Nat), o ≠ m) : m_po σ z o = σ o := by
  unfold m_po
  simp only [List.mem_cons, List.not_mem_nil, or_false, forall_eq_or_imp, forall_eq] at hms
  rw [pr_up_ne (by omega)]

theorem fw_m_po {σ : pr_I} {z : Int32} {j0 : Nat} (hj : j0 < 12) (hmw : ∀ m ∈ ([0] : List Nat), j0 ≠ m) : m_po σ z 1 j0 = σ 1 j0 := by
  simp only [List.mem_cons, List.not_mem_nil, or_false, forall_eq_or_imp, forall_eq] at hmw
  unfold m_po
  exact (pr_upk (by omega))
theorem nI_addx1 {a n : Nat} {x : Int32} (hx : vp_in x (n + 1)) (hn : n < 2 ^ 30) (h0 : ¬ x = 0) : nI (a + x.toNatClampNeg) - 1 = nI (a + (x.toNatClampNeg - 1)) := by
  obtain ⟨j, hj, rfl⟩ := vp_in_of hx (by omega)
  rw [nI_clamp (by omega)]
  cases j with
  | zero => exact absurd rfl h0
  | succ j => rw [show a + (j + 1) = (a + j) + 1 from by omega, nI_pred]; congr 1
noncomputable def m_bk (σ : pr_I) (r : Nat) : pr_I := (if (σ 1 (264 + 28 * r + 14)) = 0 then (pr_up (pr_up (pr_up (pr_up σ 1 (264 + 28 * r + 4) (2 : Int32)) 1 (264 + 28 * r + 6) ((-1) : Int32)) 1 (264 + 28 * r + 10) (σ 1 0)) 1 (264 + 28 * r + 11) ((σ 1 0) + (σ 1 (264 + 28 * r + 3)))) else (if (σ 1 (1384 + 8 * ((m_tof_r σ r (σ 1 (264 + 28 * r + (15 + ((σ 1 (264 + 28 * r + 14)).toNatClampNeg - 1))))).toNatClampNeg) + 5)) = 0 then (m_go (pr_up σ 1 (1384 + 8 * ((m_tof_r σ r (σ 1 (264 + 28 * r + (15 + ((σ 1 (264 + 28 * r + 14)).toNatClampNeg - 1))))).toNatClampNeg) + 5) (1 : Int32)) r ((σ 1 (264 + 28 * r + 14)) - (1 : Int32)) (σ 1 (264 + 28 * r + (15 + ((σ 1 (264 + 28 * r + 14)).toNatClampNeg - 1))))) else (m_fa σ r (σ 1 (264 + 28 * r + (15 + ((σ 1 (264 + 28 * r + 14)).toNatClampNeg - 1)))))))
set_option maxRecDepth 100000 in
set_option maxHeartbeats 400000 in
theorem c_m_bk {g : pr_C} {l : Launch} (hl : l.stackTraces = false) {T : pr_T} {I : pr_I} {L : pr_L} {m : Nat} {σ : pr_I} {r : Nat} (hm : pr_Mo T m) (hI : mI σ) (hr : r < 40) (hto : vp_in (m_tof_r σ r (σ 1 (264 + 28 * r + (15 + ((σ 1 (264 + 28 * r + 14)).toNatClampNeg - 1))))) 500) : pr_M g l 6 0 0 mX8_back [.ref m, .int (nI r)] T (rg_put I m 16 σ) L (pr_R none T (rg_put I m 16 (m_bk σ r)) L) pr_no := by
  refine pr_ofG (by decide) rfl hl (Nat.le_of_ble_eq_true rfl) (fun X hA hX hXn hXt => ?_)
  subst hX
  show pr_G g X mX8_back.2.2.1 _ 0 0 0 [.ref m, .int (nI r), .null, .null, .null] [] T (rg_put I m 16 σ) L
  have hn5 := mI_n5 hI
  have hr4 := mI_nr4 hI
  have hl24 := mI_nl24 hI
  have hn12 := mI_nn12 hI
  refine pr_aload_n hA dX8_back_0 rfl ?_
  refine pr_iload_n hA dX8_back_1 rfl ?_
  refine pr_bipush hA (14) dX8_back_2 (by decide) ?_
  refine pr_callVi hA [.int (nI r), .int (14 : Int32)] (c_m_req (m := m) (k := r) (c := 14) (σ := σ) (pr_hl hA) hm (by omega) (by omega)) v_X8_229 (mo_k0 hm) (by decide) rfl rfl rfl (by decide) (Nat.zero_le _) (Nat.zero_le _) rfl (Nat.le_of_ble_eq_true rfl) dX8_back_4 ?_
  refine pr_istore_n (ls' := [_, _, _, _, _]) hA dX8_back_7 (by decide) rfl ?_
  refine pr_iload_n hA dX8_back_8 rfl ?_
  refine pr_if_ne hA 61 dX8_back_9 (by decide) (fun c_9 => ?_) (fun c_9 => ?_)
  · have hp0 : vp_in (σ 1 (264 + 28 * r + 14)) 12 := mI_req hI hr (by decide) rfl
    have hp1 := vp_in_lt hp0
    have hx0 : vp_in (σ 1 (264 + 28 * r + (15 + ((σ 1 (264 + 28 * r + 14)).toNatClampNeg - 1)))) 24 := mI_req hI (k := r) (c := (15 + ((σ 1 (264 + 28 * r + 14)).toNatClampNeg - 1))) hr (by omega) (mR_path (by omega))
    have hx1 := vp_in_lt hx0
    have hto1 := vp_in_lt hto
    refine pr_aload_n hA dX8_back_61 rfl ?_
    refine pr_iload_n hA dX8_back_62 rfl ?_
    refine pr_bipush hA (nI 15) dX8_back_63 (by decide) ?_
    refine pr_iload_n hA dX8_back_65 rfl ?_
    refine pr_iadd hA dX8_back_66 ?_
    rw [show ((nI 15) + (σ 1 (264 + 28 * r + 14))) = (nI (15 + (σ 1 (264 + 28 * r + 14)).toNatClampNeg)) from (nI_addx hp0 (by decide))]
    refine pr_iconst hA (1) dX8_back_67 (by decide) ?_
    refine pr_isub hA dX8_back_68 ?_
    rw [show ((nI (15 + (σ 1 (264 + 28 * r + 14)).toNatClampNeg)) - (1 : Int32)) = (nI (15 + ((σ 1 (264 + 28 * r + 14)).toNatClampNeg - 1))) from (nI_addx1 hp0 (by decide) c_9)]
    refine pr_callVi hA [.int (nI r), .int (nI (15 + ((σ 1 (264 + 28 * r + 14)).toNatClampNeg - 1)))] (c_m_req (m := m) (k := r) (c := (15 + ((σ 1 (264 + 28 * r + 14)).toNatClampNeg - 1))) (σ := σ) (pr_hl hA) hm (by omega) (by omega)) v_X8_229 (mo_k0 hm) (by decide) rfl rfl rfl (by decide) (Nat.zero_le _) (Nat.zero_le _) rfl (Nat.le_of_ble_eq_true rfl) dX8_back_69 ?_
    refine pr_istore_n (ls' := [_, _, _, _, _]) hA dX8_back_72 (by decide) rfl ?_
    refine pr_aload_n hA dX8_back_73 rfl ?_
    refine pr_iload_n hA dX8_back_74 rfl ?_
    refine pr_iload_n hA dX8_back_75 rfl ?_
    have hv76 : mI σ := hI
    refine pr_callVi hA [.int (nI r), .int (σ 1 (264 + 28 * r + (15 + ((σ 1 (264 + 28 * r + 14)).toNatClampNeg - 1))))] (c_m_tof (m := m) (σ := σ) (r := r) (x := (σ 1 (264 + 28 * r + (15 + ((σ 1 (264 + 28 * r + 14)).toNatClampNeg - 1))))) (pr_hl hA) hm hv76) v_X8_254 (mo_k0 hm) (by decide) rfl rfl rfl (by decide) (Nat.zero_le _) (Nat.zero_le _) rfl (Nat.le_of_ble_eq_true rfl) dX8_back_76 ?_
    refine pr_istore (ls' := [_, _, _, _, _]) hA dX8_back_79 (by decide) rfl ?_
    refine pr_aload_n hA dX8_back_81 rfl ?_
    refine pr_iload hA dX8_back_82 rfl ?_
    refine pr_iconst hA (5) dX8_back_84 (by decide) ?_
    refine pr_callVi hA [.int (m_tof_r σ r (σ 1 (264 + 28 * r + (15 + ((σ 1 (264 + 28 * r + 14)).toNatClampNeg - 1))))), .int (5 : Int32)] (c_m_tickx (m := m) (x := (m_tof_r σ r (σ 1 (264 + 28 * r + (15 + ((σ 1 (264 + 28 * r + 14)).toNatClampNeg - 1)))))) (c := 5) (σ := σ) (pr_hl hA) hm (by assumption) (by omega)) v_X8_197 (mo_k0 hm) (by decide) rfl rfl rfl (by decide) (Nat.zero_le _) (Nat.zero_le _) rfl (Nat.le_of_ble_eq_true rfl) dX8_back_85 ?_
    refine pr_if_eq hA 98 dX8_back_88 (by decide) (fun c_88 => ?_) (fun c_88 => ?_)
    · refine pr_aload_n hA dX8_back_98 rfl ?_
      refine pr_iload hA dX8_back_99 rfl ?_
      refine pr_iconst hA (5) dX8_back_101 (by decide) ?_
      refine pr_iconst hA (1) dX8_back_102 (by decide) ?_
      refine pr_callVv hA [.int (m_tof_r σ r (σ 1 (264 + 28 * r + (15 + ((σ 1 (264 + 28 * r + 14)).toNatClampNeg - 1))))), .int (5 : Int32), .int (1 : Int32)] (c_m_putTickx (m := m) (x := (m_tof_r σ r (σ 1 (264 + 28 * r + (15 + ((σ 1 (264 + 28 * r + 14)).toNatClampNeg - 1)))))) (c := 5) (σ := σ) (pr_hl hA) hm (by assumption) (by omega)) v_X8_242 (mo_k0 hm) (by decide) rfl rfl rfl (by decide) (Nat.zero_le _) (Nat.zero_le _) rfl (Nat.le_of_ble_eq_true rfl) dX8_back_103 ?_
      refine pr_aload_n hA dX8_back_106 rfl ?_
      refine pr_iload_n hA dX8_back_107 rfl ?_
      refine pr_iload_n hA dX8_back_108 rfl ?_
      refine pr_iconst hA (1) dX8_back_109 (by decide) ?_
      refine pr_isub hA dX8_back_110 ?_
      refine pr_iload_n hA dX8_back_111 rfl ?_
      have hv112 : mI (pr_up σ 1 (1384 + 8 * ((m_tof_r σ r (σ 1 (264 + 28 * r + (15 + ((σ 1 (264 + 28 * r + 14)).toNatClampNeg - 1))))).toNatClampNeg) + 5) (1 : Int32)) := (mI.upn hI ((mW_tick (by omega) (by decide)).trans rfl))
      refine pr_callVv hA [.int (nI r), .int ((σ 1 (264 + 28 * r + 14)) - (1 : Int32)), .int (σ 1 (264 + 28 * r + (15 + ((σ 1 (264 + 28 * r + 14)).toNatClampNeg - 1))))] (c_m_go (m := m) (σ := (pr_up σ 1 (1384 + 8 * ((m_tof_r σ r (σ 1 (264 + 28 * r + (15 + ((σ 1 (264 + 28 * r + 14)).toNatClampNeg - 1))))).toNatClampNeg) + 5) (1 : Int32))) (r := r) (z := ((σ 1 (264 + 28 * r + 14)) - (1 : Int32))) (x := (σ 1 (264 + 28 * r + (15 + ((σ 1 (264 + 28 * r + 14)).toNatClampNeg - 1))))) (pr_hl hA) hm hv112 (by first | omega | assumption) (by first | omega | assumption)) v_X8_251 (mo_k0 hm) (by decide) rfl rfl rfl (by decide) (Nat.zero_le _) (Nat.zero_le _) rfl (Nat.le_of_ble_eq_true rfl) dX8_back_112 ?_
      exact pr_return hA rfl (Nat.zero_le _) (Nat.zero_le _) dX8_back_115 ⟨rfl, rfl, (by simp only [m_bk, if_neg c_9, if_pos c_88]), rfl⟩
    · refine pr_aload_n hA dX8_back_91 rfl ?_
      refine pr_iload_n hA dX8_back_92 rfl ?_
      refine pr_iload_n hA dX8_back_93 rfl ?_
      have hv94 : mI σ := hI
      refine pr_callVv hA [.int (nI r), .int (σ 1 (264 + 28 * r + (15 + ((σ 1 (264 + 28 * r + 14)).toNatClampNeg - 1))))] (c_m_fa (m := m) (σ := σ) (r := r) (x := (σ 1 (264 + 28 * r + (15 + ((σ 1 (264 + 28 * r + 14)).toNatClampNeg - 1))))) (pr_hl hA) hm hv94 (by first | omega | assumption) (by first | omega | assumption)) v_X8_245 (mo_k0 hm) (by decide) rfl rfl rfl (by decide) (Nat.zero_le _) (Nat.zero_le _) rfl (Nat.le_of_ble_eq_true rfl) dX8_back_94 ?_
      exact pr_return hA rfl (Nat.zero_le _) (Nat.zero_le _) dX8_back_97 ⟨rfl, rfl, (by simp only [m_bk, if_neg c_9, if_neg c_88]), rfl⟩
  · refine pr_aload_n hA dX8_back_12 rfl ?_
    refine pr_iload_n hA dX8_back_13 rfl ?_
    refine pr_iconst hA (4) dX8_back_14 (by decide) ?_
    refine pr_iconst hA (2) dX8_back_15 (by decide) ?_
    refine pr_callVv hA [.int (nI r), .int (4 : Int32), .int (2 : Int32)] (c_m_putReq (m := m) (k := r) (c := 4) (σ := σ) (pr_hl hA) hm (by omega) (by omega)) v_X8_238 (mo_k0 hm) (by decide) rfl rfl rfl (by decide) (Nat.zero_le _) (Nat.zero_le _) rfl (Nat.le_of_ble_eq_true rfl) dX8_back_16 ?_
    refine pr_aload_n hA dX8_back_19 rfl ?_
    refine pr_iload_n hA dX8_back_20 rfl ?_
    refine pr_bipush hA (6) dX8_back_21 (by decide) ?_
    refine pr_iconst hA ((-1)) dX8_back_23 (by decide) ?_
    refine pr_callVv hA [.int (nI r), .int (6 : Int32), .int ((-1) : Int32)] (c_m_putReq (m := m) (k := r) (c := 6) (σ := (pr_up σ 1 (264 + 28 * r + 4) (2 : Int32))) (pr_hl hA) hm (by omega) (by omega)) v_X8_238 (mo_k0 hm) (by decide) rfl rfl rfl (by decide) (Nat.zero_le _) (Nat.zero_le _) rfl (Nat.le_of_ble_eq_true rfl) dX8_back_24 ?_
    refine pr_aload_n hA dX8_back_27 rfl ?_
    refine pr_iload_n hA dX8_back_28 rfl ?_
    refine pr_bipush hA (10) dX8_back_29 (by decide) ?_
    refine pr_aload_n hA dX8_back_31 rfl ?_
    refine pr_getR hA f_X8_9 rfl (mo_k0 hm) (mo_f0_0 hm) dX8_back_32 ?_
    refine pr_iconst hA (nI 0) dX8_back_35 (by decide) ?_
    refine pr_ialdM (v := (σ 1 0)) hA (mo_k1 hm) (by omega) (by omega) ((rg_val (by decide)).trans ((pr_upk (by omega)).trans (pr_upk (by omega)))) dX8_back_36 ?_
    refine pr_callVv hA [.int (nI r), .int (10 : Int32), .int (σ 1 0)] (c_m_putReq (m := m) (k := r) (c := 10) (σ := (pr_up (pr_up σ 1 (264 + 28 * r + 4) (2 : Int32)) 1 (264 + 28 * r + 6) ((-1) : Int32))) (pr_hl hA) hm (by omega) (by omega)) v_X8_238 (mo_k0 hm) (by decide) rfl rfl rfl (by decide) (Nat.zero_le _) (Nat.zero_le _) rfl (Nat.le_of_ble_eq_true rfl) dX8_back_37 ?_
    refine pr_aload_n hA dX8_back_40 rfl ?_
    refine pr_iload_n hA dX8_back_41 rfl ?_
    refine pr_bipush hA (11) dX8_back_42 (by decide) ?_
    refine pr_aload_n hA dX8_back_44 rfl ?_
    refine pr_getR hA f_X8_9 rfl (mo_k0 hm) (mo_f0_0 hm) dX8_back_45 ?_
    refine pr_iconst hA (nI 0) dX8_back_48 (by decide) ?_
    refine pr_ialdM (v := (σ 1 0)) hA (mo_k1 hm) (by omega) (by omega) ((rg_val (by decide)).trans ((pr_upk (by omega)).trans ((pr_upk (by omega)).trans (pr_upk (by omega))))) dX8_back_49 ?_
    refine pr_aload_n hA dX8_back_50 rfl ?_
    refine pr_iload_n hA dX8_back_51 rfl ?_
    refine pr_iconst hA (3) dX8_back_52 (by decide) ?_
    refine pr_callVi hA [.int (nI r), .int (3 : Int32)] (c_m_req (m := m) (k := r) (c := 3) (σ := (pr_up (pr_up (pr_up σ 1 (264 + 28 * r + 4) (2 : Int32)) 1 (264 + 28 * r + 6) ((-1) : Int32)) 1 (264 + 28 * r + 10) (σ 1 0))) (pr_hl hA) hm (by omega) (by omega)) v_X8_229 (mo_k0 hm) (by decide) rfl rfl rfl (by decide) (Nat.zero_le _) (Nat.zero_le _) rfl (Nat.le_of_ble_eq_true rfl) dX8_back_53 ?_
    rw [show ((pr_up (pr_up (pr_up σ 1 (264 + 28 * r + 4) (2 : Int32)) 1 (264 + 28 * r + 6) ((-1) : Int32)) 1 (264 + 28 * r + 10) (σ 1 0)) 1 (264 + 28 * r + 3)) = (σ 1 (264 + 28 * r + 3)) from ((pr_upk (by omega)).trans ((pr_upk (by omega)).trans (pr_upk (by omega))))]
    refine pr_iadd hA dX8_back_56 ?_
    refine pr_callVv hA [.int (nI r), .int (11 : Int32), .int ((σ 1 0) + (σ 1 (264 + 28 * r + 3)))] (c_m_putReq (m := m) (k := r) (c := 11) (σ := (pr_up (pr_up (pr_up σ 1 (264 + 28 * r + 4) (2 : Int32)) 1 (264 + 28 * r + 6) ((-1) : Int32)) 1 (264 + 28 * r + 10) (σ 1 0))) (pr_hl hA) hm (by omega) (by omega)) v_X8_238 (mo_k0 hm) (by decide) rfl rfl rfl (by decide) (Nat.zero_le _) (Nat.zero_le _) rfl (Nat.le_of_ble_eq_true rfl) dX8_back_57 ?_
    exact pr_return hA rfl (Nat.zero_le _) (Nat.zero_le _) dX8_back_60 ⟨rfl, rfl, (by simp only [m_bk, if_pos c_9]), rfl⟩

theorem fr_m_bk {σ : pr_I} {r : Nat} {o : Nat} (hms : ∀ m ∈ ([1] : List Nat), o ≠ m) : m_bk σ r o = σ o := by
  unfold m_bk
  simp only [List.mem_cons, List.not_mem_nil, or_false, forall_eq_or_imp, forall_eq] at hms
  by_cases c_9 : (σ 1 (264 + 28 * r + 14)) = 0
  · refine (congrFun (if_pos c_9) o).trans ?_
    rw [pr_up_ne (by omega), pr_up_ne (by omega), pr_up_ne (by omega), pr_up_ne (by omega)]
  · refine (congrFun (if_neg c_9) o).trans ?_
    by_cases c_88 : (σ 1 (1384 + 8 * ((m_tof_r σ r (σ 1 (264 + 28 * r + (15 + ((σ 1 (264 + 28 * r + 14)).toNatClampNeg - 1))))).toNatClampNeg) + 5)) = 0
    · refine (congrFun (if_pos c_88) o).trans ?_
      rw [fr_m_go (by simp only [List.mem_cons, List.not_mem_nil, or_false, forall_eq_or_imp, forall_eq]; omega), pr_up_ne (by omega)]
    · refine (congrFun (if_neg c_88) o).trans ?_
      rw [fr_m_fa (by simp only [List.mem_cons, List.not_mem_nil, or_false, forall_eq_or_imp, forall_eq]; omega)]

theorem fw_m_bk {σ : pr_I} {r : Nat} {j0 : Nat} (hj : j0 < 12) (hmw : ∀ m ∈ ([] : List Nat), j0 ≠ m) : m_bk σ r 1 j0 = σ 1 j0 := by
  unfold m_bk
  by_cases c_9 : (σ 1 (264 + 28 * r + 14)) = 0
  · rw [if_pos c_9]
    exact ((pr_upk (by omega)).trans ((pr_upk (by omega)).trans ((pr_upk (by omega)).trans (pr_upk (by omega)))))
  · rw [if_neg c_9]
    by_cases c_88 : (σ 1 (1384 + 8 * ((m_tof_r σ r (σ 1 (264 + 28 * r + (15 + ((σ 1 (264 + 28 * r + 14)).toNatClampNeg - 1))))).toNatClampNeg) + 5)) = 0
    · rw [if_pos c_88]
      exact ((fw_m_go hj (fun m hm => by cases hm)).trans (pr_upk (by omega)))
    · rw [if_neg c_88]
      exact (fw_m_fa hj (fun m hm => by cases hm))
