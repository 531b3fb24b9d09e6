theorem mI_m_dn {σ : pr_I} {lk : Nat} (hI : mI σ) (hk : lk < 24) : mI (m_dn σ lk) := mI_m_dn_it19 hI hk _ (mI_nr4 hI)
noncomputable def mf_ticksUntilActive_r (σ : pr_I) (k : Nat) : Int32 := (m_ua_r (pr_row (pr_up σ 0 6 (0 : Int32)) 2 (cp_row (σ 1) (σ 2) 5384)) k)
noncomputable def mf_ticksUntilActive (σ : pr_I) (k : Nat) : pr_I := (pr_row (m_ua (pr_row (pr_up σ 0 6 (0 : Int32)) 2 (cp_row (σ 1) (σ 2) 5384)) k) 1 (cp_row (cp_row (σ 1) (σ 2) 5384) ((m_ua (pr_row (pr_up σ 0 6 (0 : Int32)) 2 (cp_row (σ 1) (σ 2) 5384)) k) 1) 5384))
set_option maxRecDepth 100000 in
set_option maxHeartbeats 400000 in
theorem c_mf_ticksUntilActive {g : pr_C} {l : Launch} (hl : l.stackTraces = false) {T : pr_T} {I : pr_I} {L : pr_L} {m : Nat} {σ : pr_I} {k : Nat} (hm : pr_Mo T m) (hI : mI σ) (hk : k < mrn σ) (hok : m_ua_ok (pr_row (pr_up σ 0 6 (0 : Int32)) 2 (cp_row (σ 1) (σ 2) 5384)) k) : pr_M g l 11 0 0 mX8_ticksUntilActive [.ref m, .int (nI k)] T (rg_put I m 16 σ) L (pr_R (some (.int (mf_ticksUntilActive_r σ k))) T (rg_put I m 16 (mf_ticksUntilActive σ k)) L) pr_no := by
  refine pr_ofG (by decide) rfl hl (Nat.le_of_ble_eq_true rfl) (fun X hA hX hXn hXt => ?_)
  subst hX
  show pr_G g X mX8_ticksUntilActive.2.2.1 _ 0 0 0 [.ref m, .int (nI k), .null] [] T (rg_put I m 16 σ) L
  have hn5 := mI_n5 hI
  have hr4 := mI_nr4 hI
  have hl24 := mI_nl24 hI
  have hn12 := mI_nn12 hI
  refine pr_aload_n hA dX8_ticksUntilActive_0 rfl ?_
  refine pr_iload_n hA dX8_ticksUntilActive_1 rfl ?_
  have hv2 : mI σ := hI
  refine pr_callVi hA [.int (nI k)] (c_nq_ok (m := m) (σ := σ) (pr_hl hA) hm hv2 (by omega)) v_X8_346 (mo_k0 hm) (by decide) rfl rfl rfl (by decide) (Nat.zero_le _) (Nat.zero_le _) rfl (Nat.le_of_ble_eq_true rfl) dX8_ticksUntilActive_2 ?_
  refine pr_if_eq hA 10 dX8_ticksUntilActive_5 (by decide) (fun c_5 => ?_) (fun c_5 => ?_)
  · refine pr_aload_n hA dX8_ticksUntilActive_10 rfl ?_
    refine pr_getR hA f_X8_9 rfl (mo_k0 hm) (mo_f0_0 hm) dX8_ticksUntilActive_11 ?_
    refine pr_aload_n hA dX8_ticksUntilActive_14 rfl ?_
    refine pr_getR hA f_X8_13 rfl (mo_k0 hm) (mo_f0_1 hm) dX8_ticksUntilActive_15 ?_
    refine pr_callSv hA [.ref (m + 1), .ref (m + 2)] (c_copiesE (pr_hl hA) (mo_k1 hm) (mo_k2 hm) (by omega) ((rg_row (by decide)).trans (pr_up_ne (by decide))) ((rg_row (by decide)).trans (pr_up_ne (by decide))) (rg_put_row (by decide))) s_X8_193 rfl (by decide) (Nat.zero_le _) (Nat.zero_le _) rfl (Nat.le_of_ble_eq_true rfl) dX8_ticksUntilActive_18 ?_
    refine pr_aload_n hA dX8_ticksUntilActive_21 rfl ?_
    refine pr_iload_n hA dX8_ticksUntilActive_22 rfl ?_
    have hv23 : mI (pr_row (pr_up σ 0 6 (0 : Int32)) 2 (cp_row (σ 1) (σ 2) 5384)) := (mI.cp (mI.upn hI rfl) (by decide) (by decide) (mI_rw hI (by decide) (by decide)))
    refine pr_callVi hA [.int (nI k)] (c_m_ua (m := m) (σ := (pr_row (pr_up σ 0 6 (0 : Int32)) 2 (cp_row (σ 1) (σ 2) 5384))) (r := k) (pr_hl hA) hm hv23 (by first | omega | assumption) hok) v_X8_389 (mo_k0 hm) (by decide) rfl rfl rfl (by decide) (Nat.zero_le _) (Nat.zero_le _) rfl (Nat.le_of_ble_eq_true rfl) dX8_ticksUntilActive_23 ?_
    refine pr_istore_n (ls' := [_, _, _]) hA dX8_ticksUntilActive_26 (by decide) rfl ?_
    refine pr_aload_n hA dX8_ticksUntilActive_27 rfl ?_
    refine pr_getR hA f_X8_13 rfl (mo_k0 hm) (mo_f0_1 hm) dX8_ticksUntilActive_28 ?_
    refine pr_aload_n hA dX8_ticksUntilActive_31 rfl ?_
    refine pr_getR hA f_X8_9 rfl (mo_k0 hm) (mo_f0_0 hm) dX8_ticksUntilActive_32 ?_
    refine pr_callSv hA [.ref (m + 2), .ref (m + 1)] (c_copiesE (pr_hl hA) (mo_k2 hm) (mo_k1 hm) (by omega) ((rg_row (by decide)).trans ((fr_m_ua (by decide)).trans pr_row_eq)) (rg_row (by decide)) (rg_put_row (by decide))) s_X8_193 rfl (by decide) (Nat.zero_le _) (Nat.zero_le _) rfl (Nat.le_of_ble_eq_true rfl) dX8_ticksUntilActive_35 ?_
    refine pr_iload_n hA dX8_ticksUntilActive_38 rfl ?_
    exact pr_ireturn hA rfl rfl (Nat.zero_le _) (Nat.zero_le _) dX8_ticksUntilActive_39 ⟨rfl, rfl, rfl, rfl⟩
  · exact (c_5 (by decide)).elim

theorem fr_mf_ticksUntilActive {σ : pr_I} {k : Nat} {o : Nat} (hms : ∀ m ∈ ([0, 1, 2, 8, 9, 10] : List Nat), o ≠ m) : mf_ticksUntilActive σ k o = σ o := by
  unfold mf_ticksUntilActive
  simp only [List.mem_cons, List.not_mem_nil, or_false, forall_eq_or_imp, forall_eq] at hms
  rw [pr_row_ne (by omega), fr_m_ua (by simp only [List.mem_cons, List.not_mem_nil, or_false, forall_eq_or_imp, forall_eq]; omega), pr_row_ne (by omega), pr_up_ne (by omega)]

noncomputable def mf_revenueAfter_r (σ : pr_I) (z : Int32) : Int64 := ((m_sum_r (m_gn (pr_row (pr_up σ 0 6 (0 : Int32)) 2 (cp_row (σ 1) (σ 2) 5384)) z) 7) - (m_sum_r (m_gn (pr_row (pr_up σ 0 6 (0 : Int32)) 2 (cp_row (σ 1) (σ 2) 5384)) z) 8))
noncomputable def mf_revenueAfter (σ : pr_I) (z : Int32) : pr_I := (pr_row (m_gn (pr_row (pr_up σ 0 6 (0 : Int32)) 2 (cp_row (σ 1) (σ 2) 5384)) z) 1 (cp_row (cp_row (σ 1) (σ 2) 5384) ((m_gn (pr_row (pr_up σ 0 6 (0 : Int32)) 2 (cp_row (σ 1) (σ 2) 5384)) z) 1) 5384))
set_option maxRecDepth 100000 in
set_option maxHeartbeats 400000 in
theorem c_mf_revenueAfter {g : pr_C} {l : Launch} (hl : l.stackTraces = false) {T : pr_T} {I : pr_I} {L : pr_L} {m : Nat} {σ : pr_I} {z : Int32} (hm : pr_Mo T m) (hI : mI σ) (hz1 : 0 ≤ z) (hz2 : z ≤ 2000) (hok : m_gn_ok (pr_row (pr_up σ 0 6 (0 : Int32)) 2 (cp_row (σ 1) (σ 2) 5384)) z) : pr_M g l 11 0 0 mX8_revenueAfter [.ref m, .int z] T (rg_put I m 16 σ) L (pr_R (some (.long (mf_revenueAfter_r σ z))) T (rg_put I m 16 (mf_revenueAfter σ z)) L) pr_no := by
  refine pr_ofG (by decide) rfl hl (Nat.le_of_ble_eq_true rfl) (fun X hA hX hXn hXt => ?_)
  subst hX
  show pr_G g X mX8_revenueAfter.2.2.1 _ 0 0 0 [.ref m, .int z, .null, .null] [] T (rg_put I m 16 σ) L
  have hn5 := mI_n5 hI
  have hr4 := mI_nr4 hI
  have hl24 := mI_nl24 hI
  have hn12 := mI_nn12 hI
  refine pr_aload_n hA dX8_revenueAfter_0 rfl ?_
  refine pr_iconst hA (0) dX8_revenueAfter_1 (by decide) ?_
  refine pr_putE (I' := (rg_put I m 16 (pr_up σ 0 6 (0 : Int32)))) hA f_X8_60 rfl (mo_k0 hm) (rg_up0 (by decide)) dX8_revenueAfter_2 ?_
  refine pr_aload_n hA dX8_revenueAfter_5 rfl ?_
  refine pr_iload_n hA dX8_revenueAfter_6 rfl ?_
  refine pr_iconst hA (1) dX8_revenueAfter_7 (by decide) ?_
  have hv8 : mI (pr_up σ 0 6 (0 : Int32)) := (mI.upn hI rfl)
  refine pr_callVi hA [.int z, .int (1 : Int32)] (c_nt_ok (m := m) (σ := (pr_up σ 0 6 (0 : Int32))) (pr_hl hA) hm pr_upe hv8 hz1 hz2) v_X8_398 (mo_k0 hm) (by decide) rfl rfl rfl (by decide) (Nat.zero_le _) (Nat.zero_le _) rfl (Nat.le_of_ble_eq_true rfl) dX8_revenueAfter_8 ?_
  refine pr_if_eq hA 16 dX8_revenueAfter_11 (by decide) (fun c_11 => ?_) (fun c_11 => ?_)
  · refine pr_aload_n hA dX8_revenueAfter_16 rfl ?_
    refine pr_getR hA f_X8_9 rfl (mo_k0 hm) (mo_f0_0 hm) dX8_revenueAfter_17 ?_
    refine pr_aload_n hA dX8_revenueAfter_20 rfl ?_
    refine pr_getR hA f_X8_13 rfl (mo_k0 hm) (mo_f0_1 hm) dX8_revenueAfter_21 ?_
    refine pr_callSv hA [.ref (m + 1), .ref (m + 2)] (c_copiesE (pr_hl hA) (mo_k1 hm) (mo_k2 hm) (by omega) ((rg_row (by decide)).trans (pr_up_ne (by decide))) ((rg_row (by decide)).trans (pr_up_ne (by decide))) (rg_put_row (by decide))) s_X8_193 rfl (by decide) (Nat.zero_le _) (Nat.zero_le _) rfl (Nat.le_of_ble_eq_true rfl) dX8_revenueAfter_24 ?_
    refine pr_aload_n hA dX8_revenueAfter_27 rfl ?_
    refine pr_iload_n hA dX8_revenueAfter_28 rfl ?_
    have hv29 : mI (pr_row (pr_up σ 0 6 (0 : Int32)) 2 (cp_row (σ 1) (σ 2) 5384)) := (mI.cp (mI.upn hI rfl) (by decide) (by decide) (mI_rw hI (by decide) (by decide)))
    refine pr_callVv hA [.int z] (c_m_gn (m := m) (σ := (pr_row (pr_up σ 0 6 (0 : Int32)) 2 (cp_row (σ 1) (σ 2) 5384))) (z := z) (pr_hl hA) hm hv29 hok) v_X8_306 (mo_k0 hm) (by decide) rfl rfl rfl (by decide) (Nat.zero_le _) (Nat.zero_le _) rfl (Nat.le_of_ble_eq_true rfl) dX8_revenueAfter_29 ?_
    refine pr_aload_n hA dX8_revenueAfter_32 rfl ?_
    refine pr_bipush hA (nI 7) dX8_revenueAfter_33 (by decide) ?_
    have hv35 : mI (m_gn (pr_row (pr_up σ 0 6 (0 : Int32)) 2 (cp_row (σ 1) (σ 2) 5384)) z) := (mI_m_gn (mI.cp (mI.upn hI rfl) (by decide) (by decide) (mI_rw hI (by decide) (by decide))) hok)
    refine pr_callVl hA [.int (nI 7)] (c_m_sum (m := m) (σ := (m_gn (pr_row (pr_up σ 0 6 (0 : Int32)) 2 (cp_row (σ 1) (σ 2) 5384)) z)) (c := 7) (pr_hl hA) hm hv35 (by first | omega | assumption)) v_X8_358 (mo_k0 hm) (by decide) rfl rfl rfl (by decide) (Nat.zero_le _) (Nat.zero_le _) rfl (Nat.le_of_ble_eq_true rfl) dX8_revenueAfter_35 ?_
    refine pr_aload_n hA dX8_revenueAfter_38 rfl ?_
    refine pr_bipush hA (nI 8) dX8_revenueAfter_39 (by decide) ?_
    have hv41 : mI (m_gn (pr_row (pr_up σ 0 6 (0 : Int32)) 2 (cp_row (σ 1) (σ 2) 5384)) z) := (mI_m_gn (mI.cp (mI.upn hI rfl) (by decide) (by decide) (mI_rw hI (by decide) (by decide))) hok)
    refine pr_callVl hA [.int (nI 8)] (c_m_sum (m := m) (σ := (m_gn (pr_row (pr_up σ 0 6 (0 : Int32)) 2 (cp_row (σ 1) (σ 2) 5384)) z)) (c := 8) (pr_hl hA) hm hv41 (by first | omega | assumption)) v_X8_358 (mo_k0 hm) (by decide) rfl rfl rfl (by decide) (Nat.zero_le _) (Nat.zero_le _) rfl (Nat.le_of_ble_eq_true rfl) dX8_revenueAfter_41 ?_
    refine pr_lsub hA dX8_revenueAfter_44 ?_
    refine pr_lstore_n (ls' := [_, _, _, _]) hA dX8_revenueAfter_45 (by decide) rfl ?_
    refine pr_aload_n hA dX8_revenueAfter_46 rfl ?_
    refine pr_getR hA f_X8_13 rfl (mo_k0 hm) (mo_f0_1 hm) dX8_revenueAfter_47 ?_
    refine pr_aload_n hA dX8_revenueAfter_50 rfl ?_
    refine pr_getR hA f_X8_9 rfl (mo_k0 hm) (mo_f0_0 hm) dX8_revenueAfter_51 ?_
    refine pr_callSv hA [.ref (m + 2), .ref (m + 1)] (c_copiesE (pr_hl hA) (mo_k2 hm) (mo_k1 hm) (by omega) ((rg_row (by decide)).trans ((fr_m_gn (by decide)).trans pr_row_eq)) (rg_row (by decide)) (rg_put_row (by decide))) s_X8_193 rfl (by decide) (Nat.zero_le _) (Nat.zero_le _) rfl (Nat.le_of_ble_eq_true rfl) dX8_revenueAfter_54 ?_
    refine pr_lload_n hA dX8_revenueAfter_57 rfl ?_
    exact pr_lreturn hA rfl (Nat.zero_le _) (Nat.zero_le _) dX8_revenueAfter_58 ⟨rfl, rfl, rfl, rfl⟩
  · exact (c_11 (by decide)).elim

theorem fr_mf_revenueAfter {σ : pr_I} {z : Int32} {o : Nat} (hms : ∀ m ∈ ([0, 1, 2, 8, 9, 10] : List Nat), o ≠ m) : mf_revenueAfter σ z o = σ o := by
  unfold mf_revenueAfter
  simp only [List.mem_cons, List.not_mem_nil, or_false, forall_eq_or_imp, forall_eq] at hms
  rw [pr_row_ne (by omega), fr_m_gn (by simp only [List.mem_cons, List.not_mem_nil, or_false, forall_eq_or_imp, forall_eq]; omega), pr_row_ne (by omega), pr_up_ne (by omega)]

noncomputable def mf_availableAfter_r (σ : pr_I) (k : Nat) (z : Int32) : Int32 := (m_av_r (m_gn (pr_row (pr_up σ 0 6 (0 : Int32)) 2 (cp_row (σ 1) (σ 2) 5384)) z) (mtn (m_gn (pr_row (pr_up σ 0 6 (0 : Int32)) 2 (cp_row (σ 1) (σ 2) 5384)) z)) k)
noncomputable def mf_availableAfter (σ : pr_I) (k : Nat) (z : Int32) : pr_I := (pr_row (m_gn (pr_row (pr_up σ 0 6 (0 : Int32)) 2 (cp_row (σ 1) (σ 2) 5384)) z) 1 (cp_row (cp_row (σ 1) (σ 2) 5384) ((m_gn (pr_row (pr_up σ 0 6 (0 : Int32)) 2 (cp_row (σ 1) (σ 2) 5384)) z) 1) 5384))
set_option maxRecDepth 100000 in
set_option maxHeartbeats 400000 in
theorem c_mf_availableAfter {g : pr_C} {l : Launch} (hl : l.stackTraces = false) {T : pr_T} {I : pr_I} {L : pr_L} {m : Nat} {σ : pr_I} {k : Nat} {z : Int32} (hm : pr_Mo T m) (hI : mI σ) (hk : k < mln σ) (hz1 : 0 ≤ z) (hz2 : z ≤ 2000) (hok : m_gn_ok (pr_row (pr_up σ 0 6 (0 : Int32)) 2 (cp_row (σ 1) (σ 2) 5384)) z) : pr_M g l 11 0 0 mX8_availableAfter [.ref m, .int (nI k), .int z] T (rg_put I m 16 σ) L (pr_R (some (.int (mf_availableAfter_r σ k z))) T (rg_put I m 16 (mf_availableAfter σ k z)) L) pr_no := by
  refine pr_ofG (by decide) rfl hl (Nat.le_of_ble_eq_true rfl) (fun X hA hX hXn hXt => ?_)
  subst hX
  show pr_G g X mX8_availableAfter.2.2.1 _ 0 0 0 [.ref m, .int (nI k), .int z, .null] [] T (rg_put I m 16 σ) L
  have hn5 := mI_n5 hI
  have hr4 := mI_nr4 hI
  have hl24 := mI_nl24 hI
  have hn12 := mI_nn12 hI
  refine pr_aload_n hA dX8_availableAfter_0 rfl ?_
  refine pr_iload_n hA dX8_availableAfter_1 rfl ?_
  have hv2 : mI σ := hI
  refine pr_callVi hA [.int (nI k)] (c_nl_ok (m := m) (σ := σ) (pr_hl hA) hm hv2 (by omega)) v_X8_315 (mo_k0 hm) (by decide) rfl rfl rfl (by decide) (Nat.zero_le _) (Nat.zero_le _) rfl (Nat.le_of_ble_eq_true rfl) dX8_availableAfter_2 ?_
  refine pr_if_ne hA 17 dX8_availableAfter_5 (by decide) (fun c_5 => ?_) (fun c_5 => ?_)
  · exact (c_5 (by decide)).elim
  · refine pr_aload_n hA dX8_availableAfter_8 rfl ?_
    refine pr_iload_n hA dX8_availableAfter_9 rfl ?_
    refine pr_iconst hA (2) dX8_availableAfter_10 (by decide) ?_
    have hv11 : mI (pr_up σ 0 6 (0 : Int32)) := (mI.upn hI rfl)
    refine pr_callVi hA [.int z, .int (2 : Int32)] (c_nt_ok (m := m) (σ := (pr_up σ 0 6 (0 : Int32))) (pr_hl hA) hm pr_upe hv11 hz1 hz2) v_X8_398 (mo_k0 hm) (by decide) rfl rfl rfl (by decide) (Nat.zero_le _) (Nat.zero_le _) rfl (Nat.le_of_ble_eq_true rfl) dX8_availableAfter_11 ?_
    refine pr_if_eq hA 19 dX8_availableAfter_14 (by decide) (fun c_14 => ?_) (fun c_14 => ?_)
    · refine pr_aload_n hA dX8_availableAfter_19 rfl ?_
      refine pr_getR hA f_X8_9 rfl (mo_k0 hm) (mo_f0_0 hm) dX8_availableAfter_20 ?_
      refine pr_aload_n hA dX8_availableAfter_23 rfl ?_
      refine pr_getR hA f_X8_13 rfl (mo_k0 hm) (mo_f0_1 hm) dX8_availableAfter_24 ?_
      refine pr_callSv hA [.ref (m + 1), .ref (m + 2)] (c_copiesE (pr_hl hA) (mo_k1 hm) (mo_k2 hm) (by omega) ((rg_row (by decide)).trans (pr_up_ne (by decide))) ((rg_row (by decide)).trans (pr_up_ne (by decide))) (rg_put_row (by decide))) s_X8_193 rfl (by decide) (Nat.zero_le _) (Nat.zero_le _) rfl (Nat.le_of_ble_eq_true rfl) dX8_availableAfter_27 ?_
      refine pr_aload_n hA dX8_availableAfter_30 rfl ?_
      refine pr_iload_n hA dX8_availableAfter_31 rfl ?_
      have hv32 : mI (pr_row (pr_up σ 0 6 (0 : Int32)) 2 (cp_row (σ 1) (σ 2) 5384)) := (mI.cp (mI.upn hI rfl) (by decide) (by decide) (mI_rw hI (by decide) (by decide)))
      refine pr_callVv hA [.int z] (c_m_gn (m := m) (σ := (pr_row (pr_up σ 0 6 (0 : Int32)) 2 (cp_row (σ 1) (σ 2) 5384))) (z := z) (pr_hl hA) hm hv32 hok) v_X8_306 (mo_k0 hm) (by decide) rfl rfl rfl (by decide) (Nat.zero_le _) (Nat.zero_le _) rfl (Nat.le_of_ble_eq_true rfl) dX8_availableAfter_32 ?_
      refine pr_aload_n hA dX8_availableAfter_35 rfl ?_
      refine pr_iload_n hA dX8_availableAfter_36 rfl ?_
      have hv37 : mI (m_gn (pr_row (pr_up σ 0 6 (0 : Int32)) 2 (cp_row (σ 1) (σ 2) 5384)) z) := (mI_m_gn (mI.cp (mI.upn hI rfl) (by decide) (by decide) (mI_rw hI (by decide) (by decide))) hok)
      refine pr_callVi hA [.int (nI k)] (c_m_av (m := m) (σ := (m_gn (pr_row (pr_up σ 0 6 (0 : Int32)) 2 (cp_row (σ 1) (σ 2) 5384)) z)) (n := (mtn (m_gn (pr_row (pr_up σ 0 6 (0 : Int32)) 2 (cp_row (σ 1) (σ 2) 5384)) z))) (lk := k) (pr_hl hA) hm (mI_n hv37) (mI_n5 hv37) (by omega)) v_X8_209 (mo_k0 hm) (by decide) rfl rfl rfl (by decide) (Nat.zero_le _) (Nat.zero_le _) rfl (Nat.le_of_ble_eq_true rfl) dX8_availableAfter_37 ?_
      refine pr_istore_n (ls' := [_, _, _, _]) hA dX8_availableAfter_40 (by decide) rfl ?_
      refine pr_aload_n hA dX8_availableAfter_41 rfl ?_
      refine pr_getR hA f_X8_13 rfl (mo_k0 hm) (mo_f0_1 hm) dX8_availableAfter_42 ?_
      refine pr_aload_n hA dX8_availableAfter_45 rfl ?_
      refine pr_getR hA f_X8_9 rfl (mo_k0 hm) (mo_f0_0 hm) dX8_availableAfter_46 ?_
      refine pr_callSv hA [.ref (m + 2), .ref (m + 1)] (c_copiesE (pr_hl hA) (mo_k2 hm) (mo_k1 hm) (by omega) ((rg_row (by decide)).trans ((fr_m_gn (by decide)).trans pr_row_eq)) (rg_row (by decide)) (rg_put_row (by decide))) s_X8_193 rfl (by decide) (Nat.zero_le _) (Nat.zero_le _) rfl (Nat.le_of_ble_eq_true rfl) dX8_availableAfter_49 ?_
      refine pr_iload_n hA dX8_availableAfter_52 rfl ?_
      exact pr_ireturn hA rfl rfl (Nat.zero_le _) (Nat.zero_le _) dX8_availableAfter_53 ⟨rfl, rfl, rfl, rfl⟩
    · exact (c_14 (by decide)).elim

theorem fr_mf_availableAfter {σ : pr_I} {k : Nat} {z : Int32} {o : Nat} (hms : ∀ m ∈ ([0, 1, 2, 8, 9, 10] : List Nat), o ≠ m) : mf_availableAfter σ k z o = σ o := by
  unfold mf_availableAfter
  simp only [List.mem_cons, List.not_mem_nil, or_false, forall_eq_or_imp, forall_eq] at hms
  rw [pr_row_ne (by omega), fr_m_gn (by simp only [List.mem_cons, List.not_mem_nil, or_false, forall_eq_or_imp, forall_eq]; omega), pr_row_ne (by omega), pr_up_ne (by omega)]

noncomputable def mf_stateAfter_r (σ : pr_I) (k : Nat) (z : Int32) : Int32 := ((m_gn (pr_row (pr_up σ 0 6 (0 : Int32)) 2 (cp_row (σ 1) (σ 2) 5384)) z) 1 (264 + 28 * k + 4))
noncomputable def mf_stateAfter (σ : pr_I) (k : Nat) (z : Int32) : pr_I := (pr_row (m_gn (pr_row (pr_up σ 0 6 (0 : Int32)) 2 (cp_row (σ 1) (σ 2) 5384)) z) 1 (cp_row (cp_row (σ 1) (σ 2) 5384) ((m_gn (pr_row (pr_up σ 0 6 (0 : Int32)) 2 (cp_row (σ 1) (σ 2) 5384)) z) 1) 5384))
set_option maxRecDepth 100000 in
set_option maxHeartbeats 400000 in
theorem c_mf_stateAfter {g : pr_C} {l : Launch} (hl : l.stackTraces = false) {T : pr_T} {I : pr_I} {L : pr_L} {m : Nat} {σ : pr_I} {k : Nat} {z : Int32} (hm : pr_Mo T m) (hI : mI σ) (hk : k < mrn σ) (hz1 : 0 ≤ z) (hz2 : z ≤ 2000) (hok : m_gn_ok (pr_row (pr_up σ 0 6 (0 : Int32)) 2 (cp_row (σ 1) (σ 2) 5384)) z) : pr_M g l 11 0 0 mX8_stateAfter [.ref m, .int (nI k), .int z] T (rg_put I m 16 σ) L (pr_R (some (.int (mf_stateAfter_r σ k z))) T (rg_put I m 16 (mf_stateAfter σ k z)) L) pr_no := by
  refine pr_ofG (by decide) rfl hl (Nat.le_of_ble_eq_true rfl) (fun X hA hX hXn hXt => ?_)
  subst hX
  show pr_G g X mX8_stateAfter.2.2.1 _ 0 0 0 [.ref m, .int (nI k), .int z, .null] [] T (rg_put I m 16 σ) L
  have hn5 := mI_n5 hI
  have hr4 := mI_nr4 hI
  have hl24 := mI_nl24 hI
  have hn12 := mI_nn12 hI
  refine pr_aload_n hA dX8_stateAfter_0 rfl ?_
  refine pr_iload_n hA dX8_stateAfter_1 rfl ?_
  have hv2 : mI σ := hI
  refine pr_callVi hA [.int (nI k)] (c_nq_ok (m := m) (σ := σ) (pr_hl hA) hm hv2 (by omega)) v_X8_346 (mo_k0 hm) (by decide) rfl rfl rfl (by decide) (Nat.zero_le _) (Nat.zero_le _) rfl (Nat.le_of_ble_eq_true rfl) dX8_stateAfter_2 ?_
  refine pr_if_ne hA 17 dX8_stateAfter_5 (by decide) (fun c_5 => ?_) (fun c_5 => ?_)
  · exact (c_5 (by decide)).elim
  · refine pr_aload_n hA dX8_stateAfter_8 rfl ?_
    refine pr_iload_n hA dX8_stateAfter_9 rfl ?_
    refine pr_iconst hA (2) dX8_stateAfter_10 (by decide) ?_
    have hv11 : mI (pr_up σ 0 6 (0 : Int32)) := (mI.upn hI rfl)
    refine pr_callVi hA [.int z, .int (2 : Int32)] (c_nt_ok (m := m) (σ := (pr_up σ 0 6 (0 : Int32))) (pr_hl hA) hm pr_upe hv11 hz1 hz2) v_X8_398 (mo_k0 hm) (by decide) rfl rfl rfl (by decide) (Nat.zero_le _) (Nat.zero_le _) rfl (Nat.le_of_ble_eq_true rfl) dX8_stateAfter_11 ?_
    refine pr_if_eq hA 19 dX8_stateAfter_14 (by decide) (fun c_14 => ?_) (fun c_14 => ?_)
    · refine pr_aload_n hA dX8_stateAfter_19 rfl ?_
      refine pr_getR hA f_X8_9 rfl (mo_k0 hm) (mo_f0_0 hm) dX8_stateAfter_20 ?_
      refine pr_aload_n hA dX8_stateAfter_23 rfl ?_
      refine pr_getR hA f_X8_13 rfl (mo_k0 hm) (mo_f0_1 hm) dX8_stateAfter_24 ?_
      refine pr_callSv hA [.ref (m + 1), .ref (m + 2)] (c_copiesE (pr_hl hA) (mo_k1 hm) (mo_k2 hm) (by omega) ((rg_row (by decide)).trans (pr_up_ne (by decide))) ((rg_row (by decide)).trans (pr_up_ne (by decide))) (rg_put_row (by decide))) s_X8_193 rfl (by decide) (Nat.zero_le _) (Nat.zero_le _) rfl (Nat.le_of_ble_eq_true rfl) dX8_stateAfter_27 ?_
      refine pr_aload_n hA dX8_stateAfter_30 rfl ?_
      refine pr_iload_n hA dX8_stateAfter_31 rfl ?_
      have hv32 : mI (pr_row (pr_up σ 0 6 (0 : Int32)) 2 (cp_row (σ 1) (σ 2) 5384)) := (mI.cp (mI.upn hI rfl) (by decide) (by decide) (mI_rw hI (by decide) (by decide)))
      refine pr_callVv hA [.int z] (c_m_gn (m := m) (σ := (pr_row (pr_up σ 0 6 (0 : Int32)) 2 (cp_row (σ 1) (σ 2) 5384))) (z := z) (pr_hl hA) hm hv32 hok) v_X8_306 (mo_k0 hm) (by decide) rfl rfl rfl (by decide) (Nat.zero_le _) (Nat.zero_le _) rfl (Nat.le_of_ble_eq_true rfl) dX8_stateAfter_32 ?_
      refine pr_aload_n hA dX8_stateAfter_35 rfl ?_
      refine pr_iload_n hA dX8_stateAfter_36 rfl ?_
      refine pr_iconst hA (4) dX8_stateAfter_37 (by decide) ?_
      refine pr_callVi hA [.int (nI k), .int (4 : Int32)] (c_m_req (m := m) (k := k) (c := 4) (σ := (m_gn (pr_row (pr_up σ 0 6 (0 : Int32)) 2 (cp_row (σ 1) (σ 2) 5384)) z)) (pr_hl hA) hm (by omega) (by omega)) v_X8_229 (mo_k0 hm) (by decide) rfl rfl rfl (by decide) (Nat.zero_le _) (Nat.zero_le _) rfl (Nat.le_of_ble_eq_true rfl) dX8_stateAfter_38 ?_
      refine pr_istore_n (ls' := [_, _, _, _]) hA dX8_stateAfter_41 (by decide) rfl ?_
      refine pr_aload_n hA dX8_stateAfter_42 rfl ?_
      refine pr_getR hA f_X8_13 rfl (mo_k0 hm) (mo_f0_1 hm) dX8_stateAfter_43 ?_
      refine pr_aload_n hA dX8_stateAfter_46 rfl ?_
      refine pr_getR hA f_X8_9 rfl (mo_k0 hm) (mo_f0_0 hm) dX8_stateAfter_47 ?_
      refine pr_callSv hA [.ref (m + 2), .ref (m + 1)] (c_copiesE (pr_hl hA) (mo_k2 hm) (mo_k1 hm) (by omega) ((rg_row (by decide)).trans ((fr_m_gn (by decide)).trans pr_row_eq)) (rg_row (by decide)) (rg_put_row (by decide))) s_X8_193 rfl (by decide) (Nat.zero_le _) (Nat.zero_le _) rfl (Nat.le_of_ble_eq_true rfl) dX8_stateAfter_50 ?_
      refine pr_iload_n hA dX8_stateAfter_53 rfl ?_
      exact pr_ireturn hA rfl rfl (Nat.zero_le _) (Nat.zero_le _) dX8_stateAfter_54 ⟨rfl, rfl, rfl, rfl⟩
    · exact (c_14 (by decide)).elim

theorem fr_mf_stateAfter {σ : pr_I} {k : Nat} {z : Int32} {o : Nat} (hms : ∀ m ∈ ([0, 1, 2, 8, 9, 10] : List Nat), o ≠ m) : mf_stateAfter σ k z o = σ o := by
  unfold mf_stateAfter
  simp only [List.mem_cons, List.not_mem_nil, or_false, forall_eq_or_imp, forall_eq] at hms
  rw [pr_row_ne (by omega), fr_m_gn (by simp only [List.mem_cons, List.not_mem_nil, or_false, forall_eq_or_imp, forall_eq]; omega), pr_row_ne (by omega), pr_up_ne (by omega)]

noncomputable def mf_activeWithout_r (σ : pr_I) (k : Nat) (z : Int32) : Int32 := (if (σ 1 (96 + 7 * k + 5)) = (1 : Int32) then (m_many_r (m_gn (m_dn (pr_row (pr_up σ 0 6 (0 : Int32)) 2 (cp_row (σ 1) (σ 2) 5384)) k) z) (2 : Int32)) else (m_many_r (m_gn (pr_row (pr_up σ 0 6 (0 : Int32)) 2 (cp_row (σ 1) (σ 2) 5384)) z) (2 : Int32)))
noncomputable def mf_activeWithout (σ : pr_I) (k : Nat) (z : Int32) : pr_I := (if (σ 1 (96 + 7 * k + 5)) = (1 : Int32) then (pr_row (m_gn (m_dn (pr_row (pr_up σ 0 6 (0 : Int32)) 2 (cp_row (σ 1) (σ 2) 5384)) k) z) 1 (cp_row (cp_row (σ 1) (σ 2) 5384) ((m_gn (m_dn (pr_row (pr_up σ 0 6 (0 : Int32)) 2 (cp_row (σ 1) (σ 2) 5384)) k) z) 1) 5384)) else (pr_row (m_gn (pr_row (pr_up σ 0 6 (0 : Int32)) 2 (cp_row (σ 1) (σ 2) 5384)) z) 1 (cp_row (cp_row (σ 1) (σ 2) 5384) ((m_gn (pr_row (pr_up σ 0 6 (0 : Int32)) 2 (cp_row (σ 1) (σ 2) 5384)) z) 1) 5384)))
set_option maxRecDepth 100000 in
set_option maxHeartbeats 400000 in
theorem c_mf_activeWithout {g : pr_C} {l : Launch} (hl : l.stackTraces = false) {T : pr_T} {I : pr_I} {L : pr_L} {m : Nat} {σ : pr_I} {k : Nat} {z : Int32} (hm : pr_Mo T m) (hI : mI σ) (hk : k < mln σ) (hz1 : 0 ≤ z) (hz2 : z ≤ 2000) (hok : ((σ 1 (96 + 7 * k + 5)) = (1 : Int32) → m_dn_ok (pr_row (pr_up σ 0 6 (0 : Int32)) 2 (cp_row (σ 1) (σ 2) 5384)) k ∧ m_gn_ok (m_dn (pr_row (pr_up σ 0 6 (0 : Int32)) 2 (cp_row (σ 1) (σ 2) 5384)) k) z) ∧ (¬ (σ 1 (96 + 7 * k + 5)) = (1 : Int32) → m_gn_ok (pr_row (pr_up σ 0 6 (0 : Int32)) 2 (cp_row (σ 1) (σ 2) 5384)) z)) : pr_M g l 11 0 0 mX8_activeWithout [.ref m, .int (nI k), .int z] T (rg_put I m 16 σ) L (pr_R (some (.int (mf_activeWithout_r σ k z))) T (rg_put I m 16 (mf_activeWithout σ k z)) L) pr_no := by
  refine pr_ofG (by decide) rfl hl (Nat.le_of_ble_eq_true rfl) (fun X hA hX hXn hXt => ?_)
  subst hX
  show pr_G g X mX8_activeWithout.2.2.1 _ 0 0 0 [.ref m, .int (nI k), .int z, .null] [] T (rg_put I m 16 σ) L
  have hn5 := mI_n5 hI
  have hr4 := mI_nr4 hI
  have hl24 := mI_nl24 hI
  have hn12 := mI_nn12 hI
  refine pr_aload_n hA dX8_activeWithout_0 rfl ?_
  refine pr_iload_n hA dX8_activeWithout_1 rfl ?_
  have hv2 : mI σ := hI
  refine pr_callVi hA [.int (nI k)] (c_nl_ok (m := m) (σ := σ) (pr_hl hA) hm hv2 (by omega)) v_X8_315 (mo_k0 hm) (by decide) rfl rfl rfl (by decide) (Nat.zero_le _) (Nat.zero_le _) rfl (Nat.le_of_ble_eq_true rfl) dX8_activeWithout_2 ?_
  refine pr_if_ne hA 17 dX8_activeWithout_5 (by decide) (fun c_5 => ?_) (fun c_5 => ?_)
  · exact (c_5 (by decide)).elim
  · refine pr_aload_n hA dX8_activeWithout_8 rfl ?_
    refine pr_iload_n hA dX8_activeWithout_9 rfl ?_
    refine pr_iconst hA (2) dX8_activeWithout_10 (by decide) ?_
    have hv11 : mI (pr_up σ 0 6 (0 : Int32)) := (mI.upn hI rfl)
    refine pr_callVi hA [.int z, .int (2 : Int32)] (c_nt_ok (m := m) (σ := (pr_up σ 0 6 (0 : Int32))) (pr_hl hA) hm pr_upe hv11 hz1 hz2) v_X8_398 (mo_k0 hm) (by decide) rfl rfl rfl (by decide) (Nat.zero_le _) (Nat.zero_le _) rfl (Nat.le_of_ble_eq_true rfl) dX8_activeWithout_11 ?_
    refine pr_if_eq hA 19 dX8_activeWithout_14 (by decide) (fun c_14 => ?_) (fun c_14 => ?_)
    · refine pr_aload_n hA dX8_activeWithout_19 rfl ?_
      refine pr_getR hA f_X8_9 rfl (mo_k0 hm) (mo_f0_0 hm) dX8_activeWithout_20 ?_
      refine pr_aload_n hA dX8_activeWithout_23 rfl ?_
      refine pr_getR hA f_X8_13 rfl (mo_k0 hm) (mo_f0_1 hm) dX8_activeWithout_24 ?_
      refine pr_callSv hA [.ref (m + 1), .ref (m + 2)] (c_copiesE (pr_hl hA) (mo_k1 hm) (mo_k2 hm) (by omega) ((rg_row (by decide)).trans (pr_up_ne (by decide))) ((rg_row (by decide)).trans (pr_up_ne (by decide))) (rg_put_row (by decide))) s_X8_193 rfl (by decide) (Nat.zero_le _) (Nat.zero_le _) rfl (Nat.le_of_ble_eq_true rfl) dX8_activeWithout_27 ?_
      refine pr_aload_n hA dX8_activeWithout_30 rfl ?_
      refine pr_iload_n hA dX8_activeWithout_31 rfl ?_
      refine pr_iconst hA (5) dX8_activeWithout_32 (by decide) ?_
      refine pr_callVi hA [.int (nI k), .int (5 : Int32)] (c_m_link (m := m) (k := k) (c := 5) (σ := (pr_row (pr_up σ 0 6 (0 : Int32)) 2 (cp_row (σ 1) (σ 2) 5384))) (pr_hl hA) hm (by omega) (by omega)) v_X8_204 (mo_k0 hm) (by decide) rfl rfl rfl (by decide) (Nat.zero_le _) (Nat.zero_le _) rfl (Nat.le_of_ble_eq_true rfl) dX8_activeWithout_33 ?_
      rw [show ((pr_row (pr_up σ 0 6 (0 : Int32)) 2 (cp_row (σ 1) (σ 2) 5384)) 1 (96 + 7 * k + 5)) = (σ 1 (96 + 7 * k + 5)) from ((pr_rwv (by decide)).trans (pr_upv (by decide)))]
      refine pr_iconst hA (1) dX8_activeWithout_36 (by decide) ?_
      refine pr_icmp_ne hA 48 dX8_activeWithout_37 (by decide) (fun c_37 => ?_) (fun c_37 => ?_)
      · refine pr_iconst hA (0) dX8_activeWithout_48 (by decide) ?_
        refine pr_istore_n (ls' := [_, _, _, _]) hA dX8_activeWithout_49 (by decide) rfl ?_
        refine pr_aload_n hA dX8_activeWithout_50 rfl ?_
        refine pr_iload_n hA dX8_activeWithout_51 rfl ?_
        have hv52 : mI (pr_row (pr_up σ 0 6 (0 : Int32)) 2 (cp_row (σ 1) (σ 2) 5384)) := (mI.cp (mI.upn hI rfl) (by decide) (by decide) (mI_rw hI (by decide) (by decide)))
        refine pr_callVv hA [.int z] (c_m_gn (m := m) (σ := (pr_row (pr_up σ 0 6 (0 : Int32)) 2 (cp_row (σ 1) (σ 2) 5384))) (z := z) (pr_hl hA) hm hv52 (hok.2 c_37)) v_X8_306 (mo_k0 hm) (by decide) rfl rfl rfl (by decide) (Nat.zero_le _) (Nat.zero_le _) rfl (Nat.le_of_ble_eq_true rfl) dX8_activeWithout_52 ?_
        refine pr_aload_n hA dX8_activeWithout_55 rfl ?_
        refine pr_iconst hA (2) dX8_activeWithout_56 (by decide) ?_
        have hv57 : mI (m_gn (pr_row (pr_up σ 0 6 (0 : Int32)) 2 (cp_row (σ 1) (σ 2) 5384)) z) := (mI_m_gn (mI.cp (mI.upn hI rfl) (by decide) (by decide) (mI_rw hI (by decide) (by decide))) (hok.2 c_37))
        refine pr_callVi hA [.int (2 : Int32)] (c_m_many (m := m) (σ := (m_gn (pr_row (pr_up σ 0 6 (0 : Int32)) 2 (cp_row (σ 1) (σ 2) 5384)) z)) (s := (2 : Int32)) (pr_hl hA) hm hv57) v_X8_353 (mo_k0 hm) (by decide) rfl rfl rfl (by decide) (Nat.zero_le _) (Nat.zero_le _) rfl (Nat.le_of_ble_eq_true rfl) dX8_activeWithout_57 ?_
        refine pr_istore_n (ls' := [_, _, _, _]) hA dX8_activeWithout_60 (by decide) rfl ?_
        refine pr_aload_n hA dX8_activeWithout_61 rfl ?_
        refine pr_getR hA f_X8_13 rfl (mo_k0 hm) (mo_f0_1 hm) dX8_activeWithout_62 ?_
        refine pr_aload_n hA dX8_activeWithout_65 rfl ?_
        refine pr_getR hA f_X8_9 rfl (mo_k0 hm) (mo_f0_0 hm) dX8_activeWithout_66 ?_
        refine pr_callSv hA [.ref (m + 2), .ref (m + 1)] (c_copiesE (pr_hl hA) (mo_k2 hm) (mo_k1 hm) (by omega) ((rg_row (by decide)).trans ((fr_m_gn (by decide)).trans pr_row_eq)) (rg_row (by decide)) (rg_put_row (by decide))) s_X8_193 rfl (by decide) (Nat.zero_le _) (Nat.zero_le _) rfl (Nat.le_of_ble_eq_true rfl) dX8_activeWithout_69 ?_
        refine pr_iload_n hA dX8_activeWithout_72 rfl ?_
        exact pr_ireturn hA rfl rfl (Nat.zero_le _) (Nat.zero_le _) dX8_activeWithout_73 ⟨(by simp only [mf_activeWithout_r, if_neg c_37]), rfl, (by simp only [mf_activeWithout, if_neg c_37]), rfl⟩
      · refine pr_aload_n hA dX8_activeWithout_40 rfl ?_
        refine pr_iload_n hA dX8_activeWithout_41 rfl ?_
        have hv42 : mI (pr_row (pr_up σ 0 6 (0 : Int32)) 2 (cp_row (σ 1) (σ 2) 5384)) := (mI.cp (mI.upn hI rfl) (by decide) (by decide) (mI_rw hI (by decide) (by decide)))
        refine pr_callVi hA [.int (nI k)] (c_m_dn (m := m) (σ := (pr_row (pr_up σ 0 6 (0 : Int32)) 2 (cp_row (σ 1) (σ 2) 5384))) (lk := k) (pr_hl hA) hm hv42 (by first | omega | assumption) (hok.1 c_37).1) v_X8_334 (mo_k0 hm) (by decide) rfl rfl rfl (by decide) (Nat.zero_le _) (Nat.zero_le _) rfl (Nat.le_of_ble_eq_true rfl) dX8_activeWithout_42 ?_
        refine pr_goto hA 49 dX8_activeWithout_45 (by decide) ?_
        refine pr_istore_n (ls' := [_, _, _, _]) hA dX8_activeWithout_49 (by decide) rfl ?_
        refine pr_aload_n hA dX8_activeWithout_50 rfl ?_
        refine pr_iload_n hA dX8_activeWithout_51 rfl ?_
        have hv52 : mI (m_dn (pr_row (pr_up σ 0 6 (0 : Int32)) 2 (cp_row (σ 1) (σ 2) 5384)) k) := (mI_m_dn (mI.cp (mI.upn hI rfl) (by decide) (by decide) (mI_rw hI (by decide) (by decide))) (by omega))
        refine pr_callVv hA [.int z] (c_m_gn (m := m) (σ := (m_dn (pr_row (pr_up σ 0 6 (0 : Int32)) 2 (cp_row (σ 1) (σ 2) 5384)) k)) (z := z) (pr_hl hA) hm hv52 (hok.1 c_37).2) v_X8_306 (mo_k0 hm) (by decide) rfl rfl rfl (by decide) (Nat.zero_le _) (Nat.zero_le _) rfl (Nat.le_of_ble_eq_true rfl) dX8_activeWithout_52 ?_
        refine pr_aload_n hA dX8_activeWithout_55 rfl ?_
        refine pr_iconst hA (2) dX8_activeWithout_56 (by decide) ?_
        have hv57 : mI (m_gn (m_dn (pr_row (pr_up σ 0 6 (0 : Int32)) 2 (cp_row (σ 1) (σ 2) 5384)) k) z) := (mI_m_gn (mI_m_dn (mI.cp (mI.upn hI rfl) (by decide) (by decide) (mI_rw hI (by decide) (by decide))) (by omega)) (hok.1 c_37).2)
        refine pr_callVi hA [.int (2 : Int32)] (c_m_many (m := m) (σ := (m_gn (m_dn (pr_row (pr_up σ 0 6 (0 : Int32)) 2 (cp_row (σ 1) (σ 2) 5384)) k) z)) (s := (2 : Int32)) (pr_hl hA) hm hv57) v_X8_353 (mo_k0 hm) (by decide) rfl rfl rfl (by decide) (Nat.zero_le _) (Nat.zero_le _) rfl (Nat.le_of_ble_eq_true rfl) dX8_activeWithout_57 ?_
        refine pr_istore_n (ls' := [_, _, _, _]) hA dX8_activeWithout_60 (by decide) rfl ?_
        refine pr_aload_n hA dX8_activeWithout_61 rfl ?_
        refine pr_getR hA f_X8_13 rfl (mo_k0 hm) (mo_f0_1 hm) dX8_activeWithout_62 ?_
        refine pr_aload_n hA dX8_activeWithout_65 rfl ?_
        refine pr_getR hA f_X8_9 rfl (mo_k0 hm) (mo_f0_0 hm) dX8_activeWithout_66 ?_
        refine pr_callSv hA [.ref (m + 2), .ref (m + 1)] (c_copiesE (pr_hl hA) (mo_k2 hm) (mo_k1 hm) (by omega) ((rg_row (by decide)).trans ((fr_m_gn (by decide)).trans ((fr_m_dn (by decide)).trans pr_row_eq))) (rg_row (by decide)) (rg_put_row (by decide))) s_X8_193 rfl (by decide) (Nat.zero_le _) (Nat.zero_le _) rfl (Nat.le_of_ble_eq_true rfl) dX8_activeWithout_69 ?_
        refine pr_iload_n hA dX8_activeWithout_72 rfl ?_
        exact pr_ireturn hA rfl rfl (Nat.zero_le _) (Nat.zero_le _) dX8_activeWithout_73 ⟨(by simp only [mf_activeWithout_r, if_pos c_37]), rfl, (by simp only [mf_activeWithout, if_pos c_37]), rfl⟩
    · exact (c_14 (by decide)).elim

theorem fr_mf_activeWithout {σ : pr_I} {k : Nat} {z : Int32} {o : Nat} (hms : ∀ m ∈ ([0, 1, 2, 8, 9, 10] : List Nat), o ≠ m) : mf_activeWithout σ k z o = σ o := by
  unfold mf_activeWithout
  simp only [List.mem_cons, List.not_mem_nil, or_false, forall_eq_or_imp, forall_eq] at hms
  by_cases c_37 : (σ 1 (96 + 7 * k + 5)) = (1 : Int32)
  · refine (congrFun (if_pos c_37) o).trans ?_
    rw [pr_row_ne (by omega), fr_m_gn (by simp only [List.mem_cons, List.not_mem_nil, or_false, forall_eq_or_imp, forall_eq]; omega), fr_m_dn (by simp only [List.mem_cons, List.not_mem_nil, or_false, forall_eq_or_imp, forall_eq]; omega), pr_row_ne (by omega), pr_up_ne (by omega)]
  · refine (congrFun (if_neg c_37) o).trans ?_
    rw [pr_row_ne (by omega), fr_m_gn (by simp only [List.mem_cons, List.not_mem_nil, or_false, forall_eq_or_imp, forall_eq]; omega), pr_row_ne (by omega), pr_up_ne (by omega)]

noncomputable def mf_ticksForNew_r (σ : pr_I) (s : Nat) (t : Nat) (u : Int32) : Int32 := (if (nI (mrn σ)) = (nI 40) then ((-2) : Int32) else (m_fn_r (pr_up σ 0 6 (0 : Int32)) (nI s) (nI t) u))
noncomputable def mf_ticksForNew (σ : pr_I) (s : Nat) (t : Nat) (u : Int32) : pr_I := (if (nI (mrn σ)) = (nI 40) then (pr_up σ 0 6 (0 : Int32)) else (m_fn (pr_up σ 0 6 (0 : Int32)) (nI s) (nI t) u))
set_option maxRecDepth 100000 in
set_option maxHeartbeats 400000 in
theorem c_mf_ticksForNew {g : pr_C} {l : Launch} (hl : l.stackTraces = false) {T : pr_T} {I : pr_I} {L : pr_L} {m : Nat} {σ : pr_I} {s : Nat} {t : Nat} {u : Int32} (hm : pr_Mo T m) (hI : mI σ) (hs : s < mnn σ) (ht : t < mnn σ) (hst : s ≠ t) (hu1 : 1 ≤ u) (hu2 : u ≤ 1000) (hok : mrn σ < 40 → m_fn_ok (pr_up σ 0 6 (0 : Int32)) (nI s) (nI t) u) : pr_M g l 11 0 0 mX8_ticksForNew [.ref m, .int (nI s), .int (nI t), .int u] T (rg_put I m 16 σ) L (pr_R (some (.int (mf_ticksForNew_r σ s t u))) T (rg_put I m 16 (mf_ticksForNew σ s t u)) L) pr_no := by
  refine pr_ofG (by decide) rfl hl (Nat.le_of_ble_eq_true rfl) (fun X hA hX hXn hXt => ?_)
  subst hX
  show pr_G g X mX8_ticksForNew.2.2.1 _ 0 0 0 [.ref m, .int (nI s), .int (nI t), .int u] [] T (rg_put I m 16 σ) L
  have hn5 := mI_n5 hI
  have hr4 := mI_nr4 hI
  have hl24 := mI_nl24 hI
  have hn12 := mI_nn12 hI
  refine pr_aload_n hA dX8_ticksForNew_0 rfl ?_
  refine pr_iload_n hA dX8_ticksForNew_1 rfl ?_
  refine pr_iload_n hA dX8_ticksForNew_2 rfl ?_
  have hv3 : mI σ := hI
  refine pr_callVi hA [.int (nI s), .int (nI t)] (c_nn_ok (m := m) (σ := σ) (pr_hl hA) hm hv3 (by omega) (by omega) (by omega)) v_X8_337 (mo_k0 hm) (by decide) rfl rfl rfl (by decide) (Nat.zero_le _) (Nat.zero_le _) rfl (Nat.le_of_ble_eq_true rfl) dX8_ticksForNew_3 ?_
  refine pr_if_ne hA 34 dX8_ticksForNew_6 (by decide) (fun c_6 => ?_) (fun c_6 => ?_)
  · exact (c_6 (by decide)).elim
  · refine pr_aload_n hA dX8_ticksForNew_9 rfl ?_
    refine pr_iload_n hA dX8_ticksForNew_10 rfl ?_
    refine pr_i2l hA dX8_ticksForNew_11 ?_
    refine pr_lconst hA 1 dX8_ticksForNew_12 (by decide) ?_
    refine pr_ldc2 hA kK_X8_299 dX8_ticksForNew_13 ?_
    refine pr_callSi hA [.long ((u).toInt64), .long (1 : Int64), .long (1000 : Int64)] (c_inE (m := m) (σ := (pr_up σ 0 6 (0 : Int32))) (v := 1) (pr_hl hA) hm (in_z1 hu1 hu2 (by decide) (by decide))) s_X8_80 rfl (by decide) (Nat.zero_le _) (Nat.zero_le _) rfl (Nat.le_of_ble_eq_true rfl) dX8_ticksForNew_16 ?_
    refine pr_if_ne hA 26 dX8_ticksForNew_19 (by decide) (fun c_19 => ?_) (fun c_19 => ?_)
    · refine pr_iconst hA (0) dX8_ticksForNew_26 (by decide) ?_
      refine pr_iconst hA (2) dX8_ticksForNew_27 (by decide) ?_
      refine pr_callVi hA [.int (0 : Int32), .int (2 : Int32)] (c_tiE (m := m) (σ := (pr_up σ 0 6 (0 : Int32))) (pr_hl hA) hm (ti_0 pr_upe)) v_X8_301 (mo_k0 hm) (by decide) rfl rfl rfl (by decide) (Nat.zero_le _) (Nat.zero_le _) rfl (Nat.le_of_ble_eq_true rfl) dX8_ticksForNew_28 ?_
      refine pr_if_eq hA 36 dX8_ticksForNew_31 (by decide) (fun c_31 => ?_) (fun c_31 => ?_)
      · refine pr_aload_n hA dX8_ticksForNew_36 rfl ?_
        refine pr_getR hA f_X8_9 rfl (mo_k0 hm) (mo_f0_0 hm) dX8_ticksForNew_37 ?_
        refine pr_bipush hA (nI 8) dX8_ticksForNew_40 (by decide) ?_
        refine pr_ialdM (v := (nI (mrn σ))) hA (mo_k1 hm) (by omega) (by omega) ((rg_val (by decide)).trans ((pr_upv (by decide)).trans (mI_nr hI))) dX8_ticksForNew_42 ?_
        refine pr_bipush hA (nI 40) dX8_ticksForNew_43 (by decide) ?_
        refine pr_icmp_ne hA 53 dX8_ticksForNew_45 (by decide) (fun c_45 => ?_) (fun c_45 => ?_)
        · have n_45 : ¬ (mrn σ) = 40 := fun q => c_45 ((nI_eq (by omega) (by omega)).mpr q)
          have h40 : mrn σ < 40 := by omega
          refine pr_aload_n hA dX8_ticksForNew_53 rfl ?_
          refine pr_iload_n hA dX8_ticksForNew_54 rfl ?_
          refine pr_iload_n hA dX8_ticksForNew_55 rfl ?_
          refine pr_iload_n hA dX8_ticksForNew_56 rfl ?_
          have hv57 : mI (pr_up σ 0 6 (0 : Int32)) := (mI.upn hI rfl)
          refine pr_callVi hA [.int (nI s), .int (nI t), .int u] (c_m_fn (m := m) (σ := (pr_up σ 0 6 (0 : Int32))) (s := (nI s)) (t := (nI t)) (u := u) (pr_hl hA) hm hv57 (nI_vin (by omega) (by decide)) (nI_vin (by omega) (by decide)) h40 (hok h40)) v_X8_392 (mo_k0 hm) (by decide) rfl rfl rfl (by decide) (Nat.zero_le _) (Nat.zero_le _) rfl (Nat.le_of_ble_eq_true rfl) dX8_ticksForNew_57 ?_
          exact pr_ireturn hA rfl rfl (Nat.zero_le _) (Nat.zero_le _) dX8_ticksForNew_60 ⟨(by simp only [mf_ticksForNew_r, if_neg c_45]), rfl, (by simp only [mf_ticksForNew, if_neg c_45]), rfl⟩
        · have n_45 : (mrn σ) = 40 := (nI_eq (by omega) (by omega)).mp c_45
          refine pr_bipush hA ((-2)) dX8_ticksForNew_48 (by decide) ?_
          refine pr_goto hA 60 dX8_ticksForNew_50 (by decide) ?_
          exact pr_ireturn hA rfl rfl (Nat.zero_le _) (Nat.zero_le _) dX8_ticksForNew_60 ⟨(by simp only [mf_ticksForNew_r, if_pos c_45]), rfl, (by simp only [mf_ticksForNew, if_pos c_45]), rfl⟩
      · exact (c_31 (by decide)).elim
    · exact absurd c_19 (by decide)

theorem fr_mf_ticksForNew {σ : pr_I} {s : Nat} {t : Nat} {u : Int32} {o : Nat} (hms : ∀ m ∈ ([0, 1, 2, 8, 9, 10] : List Nat), o ≠ m) : mf_ticksForNew σ s t u o = σ o := by
  unfold mf_ticksForNew
  simp only [List.mem_cons, List.not_mem_nil, or_false, forall_eq_or_imp, forall_eq] at hms
  by_cases c_45 : (nI (mrn σ)) = (nI 40)
  · refine (congrFun (if_pos c_45) o).trans ?_
    rw [pr_up_ne (by omega)]
  · refine (congrFun (if_neg c_45) o).trans ?_
    rw [fr_m_fn (by simp only [List.mem_cons, List.not_mem_nil, or_false, forall_eq_or_imp, forall_eq]; omega), pr_up_ne (by omega)]

noncomputable def mf_greatestNew_fl30 (σ : pr_I) (s : Nat) (t : Nat) : Nat → pr_I → Int32 → pr_I × Int32
  | 0, σ1, _ => (σ1, 0)
  | j + 1, σ1, x3 => (if x3 ≤ 0 then (σ1, ((-1) : Int32)) else (if (m_fn_r σ1 (nI s) (nI t) x3) = ((-1) : Int32) then (mf_greatestNew_fl30 σ s t j (m_fn σ1 (nI s) (nI t) x3) (x3 / (2 : Int32))) else ((m_fn σ1 (nI s) (nI t) x3), x3)))
def mf_greatestNew_ok30 (σ : pr_I) (s : Nat) (t : Nat) : Nat → pr_I → Int32 → Prop
  | 0, _, _ => False
  | j + 1, σ1, x3 => (if x3 ≤ 0 then True else (((mrn σ1 < 40 ∧ m_fn_ok σ1 (nI s) (nI t) x3)) ∧ (if (m_fn_r σ1 (nI s) (nI t) x3) = ((-1) : Int32) then (mf_greatestNew_ok30 σ s t j (m_fn σ1 (nI s) (nI t) x3) (x3 / (2 : Int32))) else True)))
theorem fr_mf_greatestNew_fl30 {σ : pr_I} {s : Nat} {t : Nat} {o : Nat} (hms : ∀ m ∈ ([0, 1, 2, 8, 9, 10] : List Nat), o ≠ m) : ∀ {j : Nat} {σ1 : pr_I} {x3 : Int32}, (mf_greatestNew_fl30 σ s t j σ1 x3).1 o = σ1 o := by
  simp only [List.mem_cons, List.not_mem_nil, or_false, forall_eq_or_imp, forall_eq] at hms
  intro j
  induction j with
  | zero => intro _ _; rfl
  | succ j ih =>
    intro σ1 x3
    show ((if x3 ≤ 0 then (σ1, ((-1) : Int32)) else (if (m_fn_r σ1 (nI s) (nI t) x3) = ((-1) : Int32) then (mf_greatestNew_fl30 σ s t j (m_fn σ1 (nI s) (nI t) x3) (x3 / (2 : Int32))) else ((m_fn σ1 (nI s) (nI t) x3), x3)))).1 o = σ1 o
    by_cases c_31 : x3 ≤ 0
    · refine (congrFun (congrArg (fun z : pr_I × Int32 => z.1) (if_pos c_31)) o).trans ?_
      show σ1 o = σ1 o
      rfl
    · refine (congrFun (congrArg (fun z : pr_I × Int32 => z.1) (if_neg c_31)) o).trans ?_
      by_cases c_42 : (m_fn_r σ1 (nI s) (nI t) x3) = ((-1) : Int32)
      · refine (congrFun (congrArg (fun z : pr_I × Int32 => z.1) (if_pos c_42)) o).trans ?_
        rw [ih, fr_m_fn (by simp only [List.mem_cons, List.not_mem_nil, or_false, forall_eq_or_imp, forall_eq]; omega)]
      · refine (congrFun (congrArg (fun z : pr_I × Int32 => z.1) (if_neg c_42)) o).trans ?_
        show (m_fn σ1 (nI s) (nI t) x3) o = σ1 o
        rw [fr_m_fn (by simp only [List.mem_cons, List.not_mem_nil, or_false, forall_eq_or_imp, forall_eq]; omega)]

noncomputable def mf_greatestNew_r (σ : pr_I) (s : Nat) (t : Nat) : Int32 := (if (nI (mrn σ)) = (nI 40) then ((-2) : Int32) else ((mf_greatestNew_fl30 σ s t (sl 11) (pr_up σ 0 6 (0 : Int32)) (512 : Int32)).2))
noncomputable def mf_greatestNew (σ : pr_I) (s : Nat) (t : Nat) : pr_I := (if (nI (mrn σ)) = (nI 40) then (pr_up σ 0 6 (0 : Int32)) else (mf_greatestNew_fl30 σ s t (sl 11) (pr_up σ 0 6 (0 : Int32)) (512 : Int32)).1)
set_option maxRecDepth 100000 in
set_option maxHeartbeats 400000 in
theorem c_mf_greatestNew {g : pr_C} {l : Launch} (hl : l.stackTraces = false) {T : pr_T} {I : pr_I} {L : pr_L} {m : Nat} {σ : pr_I} {s : Nat} {t : Nat} (hm : pr_Mo T m) (hI : mI σ) (hs : s < mnn σ) (ht : t < mnn σ) (hst : s ≠ t) (hok : mrn σ < 40 → mf_greatestNew_ok30 σ s t (sl 11) (pr_up σ 0 6 (0 : Int32)) (512 : Int32)) : pr_M g l 11 0 0 mX8_greatestNew [.ref m, .int (nI s), .int (nI t)] T (rg_put I m 16 σ) L (pr_R (some (.int (mf_greatestNew_r σ s t))) T (rg_put I m 16 (mf_greatestNew σ s t)) L) pr_no := by
  refine pr_ofG (by decide) rfl hl (Nat.le_of_ble_eq_true rfl) (fun X hA hX hXn hXt => ?_)
  subst hX
  show pr_G g X mX8_greatestNew.2.2.1 _ 0 0 0 [.ref m, .int (nI s), .int (nI t), .null] [] T (rg_put I m 16 σ) L
  have hn5 := mI_n5 hI
  have hr4 := mI_nr4 hI
  have hl24 := mI_nl24 hI
  have hn12 := mI_nn12 hI
  have hs0 : vp_in (nI s) 12 := nI_vin (by omega) (by decide)
  have ht0 : vp_in (nI t) 12 := nI_vin (by omega) (by decide)
  have hsl11 := sl_eq 11
  refine pr_aload_n hA dX8_greatestNew_0 rfl ?_
  refine pr_iload_n hA dX8_greatestNew_1 rfl ?_
  refine pr_iload_n hA dX8_greatestNew_2 rfl ?_
  have hv3 : mI σ := hI
  refine pr_callVi hA [.int (nI s), .int (nI t)] (c_nn_ok (m := m) (σ := σ) (pr_hl hA) hm hv3 (by omega) (by omega) (by omega)) v_X8_337 (mo_k0 hm) (by decide) rfl rfl rfl (by decide) (Nat.zero_le _) (Nat.zero_le _) rfl (Nat.le_of_ble_eq_true rfl) dX8_greatestNew_3 ?_
  refine pr_if_eq hA 11 dX8_greatestNew_6 (by decide) (fun c_6 => ?_) (fun c_6 => ?_)
  · refine pr_aload_n hA dX8_greatestNew_11 rfl ?_
    refine pr_getR hA f_X8_9 rfl (mo_k0 hm) (mo_f0_0 hm) dX8_greatestNew_12 ?_
    refine pr_bipush hA (nI 8) dX8_greatestNew_15 (by decide) ?_
    refine pr_ialdM (v := (nI (mrn σ))) hA (mo_k1 hm) (by omega) (by omega) ((rg_val (by decide)).trans ((pr_upv (by decide)).trans (mI_nr hI))) dX8_greatestNew_17 ?_
    refine pr_bipush hA (nI 40) dX8_greatestNew_18 (by decide) ?_
    refine pr_icmp_ne hA 26 dX8_greatestNew_20 (by decide) (fun c_20 => ?_) (fun c_20 => ?_)
    · have n_20 : ¬ (mrn σ) = 40 := fun q => c_20 ((nI_eq (by omega) (by omega)).mpr q)
      have h40 : mrn σ < 40 := by omega
      refine pr_sipush hA (512) dX8_greatestNew_26 (by decide) ?_
      refine pr_istore_n (ls' := [_, _, _, _]) hA dX8_greatestNew_29 (by decide) rfl ?_
      obtain ⟨R, hR0⟩ : ∃ R, mf_greatestNew_fl30 σ s t (sl 11) (pr_up σ 0 6 (0 : Int32)) (512 : Int32) = R := ⟨_, rfl⟩
      have hf : mf_greatestNew_r σ s t = R.2 := by simp only [mf_greatestNew_r, if_neg c_20, hR0]
      have hm0 : mf_greatestNew σ s t = R.1 := by simp only [mf_greatestNew, if_neg c_20, hR0]
      have lp30 : ∀ (j : Nat) (σ1 : pr_I) (x3 : Int32), mI σ1 → (∀ {o : Nat}, (∀ m ∈ ([0, 1, 2, 8, 9, 10] : List Nat), o ≠ m) → σ1 o = (pr_up σ 0 6 (0 : Int32)) o) → mf_greatestNew_ok30 σ s t j σ1 x3 → mf_greatestNew_fl30 σ s t j σ1 x3 = R → pr_G g X mX8_greatestNew.2.2.1 (pr_MQ g X (pr_R (some (.int (mf_greatestNew_r σ s t))) T (rg_put I m 16 (mf_greatestNew σ s t)) L) pr_no 0 0) 0 0 30 [.ref m, .int (nI s), .int (nI t), .int x3] [] T (rg_put I m 16 σ1) L := by
        intro j
        induction j with
        | zero => intro σ1 x3 hJ hσ1 hok hR; exact hok.elim
        | succ j ih =>
          intro σ1 x3 hJ hσ1 hok hR
          have jn5 := mI_n5 hJ
          have jr4 := mI_nr4 hJ
          have jl24 := mI_nl24 hJ
          have jn12 := mI_nn12 hJ
          refine pr_iload_n hA dX8_greatestNew_30 rfl ?_
          refine pr_if_le hA 54 dX8_greatestNew_31 (by decide) (fun c_31 => ?_) (fun c_31 => ?_)
          · refine pr_iconst hA ((-1)) dX8_greatestNew_54 (by decide) ?_
            simp only [mf_greatestNew_fl30, if_pos c_31] at hR
            exact pr_ireturn hA rfl rfl (Nat.zero_le _) (Nat.zero_le _) dX8_greatestNew_55 ⟨(by first | (rw [hf, ← hR]; done) | (rw [hf, ← hR]; simp only [if_pos c_31])), rfl, (by rw [hm0, ← hR]), rfl⟩
          · refine pr_aload_n hA dX8_greatestNew_34 rfl ?_
            refine pr_iload_n hA dX8_greatestNew_35 rfl ?_
            refine pr_iload_n hA dX8_greatestNew_36 rfl ?_
            refine pr_iload_n hA dX8_greatestNew_37 rfl ?_
            have hk38 := hok
            simp only [mf_greatestNew_ok30, if_neg c_31] at hk38
            have hneed38 := hk38.1
            have hv38 : mI σ1 := hJ
            refine pr_callVi hA [.int (nI s), .int (nI t), .int x3] (c_m_fn (m := m) (σ := σ1) (s := (nI s)) (t := (nI t)) (u := x3) (pr_hl hA) hm hv38 hs0 ht0 hneed38.1 hneed38.2) v_X8_392 (mo_k0 hm) (by decide) rfl rfl rfl (by decide) (Nat.zero_le _) (Nat.zero_le _) rfl (Nat.le_of_ble_eq_true rfl) dX8_greatestNew_38 ?_
            refine pr_iconst hA ((-1)) dX8_greatestNew_41 (by decide) ?_
            refine pr_icmp_eq hA 47 dX8_greatestNew_42 (by decide) (fun c_42 => ?_) (fun c_42 => ?_)
            · refine pr_iload_n hA dX8_greatestNew_47 rfl ?_
              refine pr_iconst hA (2) dX8_greatestNew_48 (by decide) ?_
              refine pr_idiv hA dX8_greatestNew_49 (by decide) ?_
              refine pr_istore_n (ls' := [_, _, _, _]) hA dX8_greatestNew_50 (by decide) rfl ?_
              refine pr_goto hA 30 dX8_greatestNew_51 (by decide) ?_
              simp only [mf_greatestNew_fl30, if_neg c_31, if_pos c_42] at hR
              simp only [mf_greatestNew_ok30, if_neg c_31, if_pos c_42] at hok
              exact (ih (m_fn σ1 (nI s) (nI t) x3) (x3 / (2 : Int32)) (mI_m_fn hJ hs0 ht0 hneed38.1 hneed38.2) (by intro o hms; simp only [List.mem_cons, List.not_mem_nil, or_false, forall_eq_or_imp, forall_eq] at hms; rw [fr_m_fn (by simp only [List.mem_cons, List.not_mem_nil, or_false, forall_eq_or_imp, forall_eq]; omega)]; exact hσ1 (by simp only [List.mem_cons, List.not_mem_nil, or_false, forall_eq_or_imp, forall_eq]; omega)) hok.2 hR)
            · refine pr_iload_n hA dX8_greatestNew_45 rfl ?_
              simp only [mf_greatestNew_fl30, if_neg c_31, if_neg c_42] at hR
              exact pr_ireturn hA rfl rfl (Nat.zero_le _) (Nat.zero_le _) dX8_greatestNew_46 ⟨(by first | (rw [hf, ← hR]; done) | (rw [hf, ← hR]; simp only [if_neg c_31, if_neg c_42])), rfl, (by rw [hm0, ← hR]), rfl⟩
      exact (lp30 (sl 11) (pr_up σ 0 6 (0 : Int32)) (512 : Int32) (mI.upn hI rfl) (fun _ => rfl) (hok h40) hR0)
    · have n_20 : (mrn σ) = 40 := (nI_eq (by omega) (by omega)).mp c_20
      refine pr_bipush hA ((-2)) dX8_greatestNew_23 (by decide) ?_
      exact pr_ireturn hA rfl rfl (Nat.zero_le _) (Nat.zero_le _) dX8_greatestNew_25 ⟨(by simp only [mf_greatestNew_r, if_pos c_20]), rfl, (by simp only [mf_greatestNew, if_pos c_20]), rfl⟩
  · exact (c_6 (by decide)).elim

theorem fr_mf_greatestNew {σ : pr_I} {s : Nat} {t : Nat} {o : Nat} (hms : ∀ m ∈ ([0, 1, 2, 8, 9, 10] : List Nat), o ≠ m) : mf_greatestNew σ s t o = σ o := by
  unfold mf_greatestNew
  simp only [List.mem_cons, List.not_mem_nil, or_false, forall_eq_or_imp, forall_eq] at hms
  by_cases c_20 : (nI (mrn σ)) = (nI 40)
  · refine (congrFun (if_pos c_20) o).trans ?_
    rw [pr_up_ne (by omega)]
  · refine (congrFun (if_neg c_20) o).trans ?_
    rw [fr_mf_greatestNew_fl30 (by simp only [List.mem_cons, List.not_mem_nil, or_false, forall_eq_or_imp, forall_eq]; omega), pr_up_ne (by omega)]

noncomputable def mf_ticksUntilAvailable_fl48 (σ : pr_I) (k : Nat) (u : Int32) : Nat → pr_I → Int32 → pr_I × Int32
  | 0, σ1, _ => (σ1, 0)
  | j + 1, σ1, x3 => (if u ≤ (m_av_r σ1 (mtn σ1) k) then ((pr_row σ1 1 (cp_row (cp_row (σ 1) (σ 2) 5384) (σ1 1) 5384)), (if x3 ≤ (2000 : Int32) then x3 else ((-1) : Int32))) else (if (2000 : Int32) < x3 then ((pr_row σ1 1 (cp_row (cp_row (σ 1) (σ 2) 5384) (σ1 1) 5384)), (if x3 ≤ (2000 : Int32) then x3 else ((-1) : Int32))) else (mf_ticksUntilAvailable_fl48 σ k u j (m_ts (m_po σ1 ((2000 : Int32) - x3))) ((x3 + (m_po_r σ1 ((2000 : Int32) - x3))) + Int32.ofInt (1)))))
def mf_ticksUntilAvailable_ok48 (σ : pr_I) (k : Nat) (u : Int32) : Nat → pr_I → Int32 → Prop
  | 0, _, _ => False
  | j + 1, σ1, x3 => (if u ≤ (m_av_r σ1 (mtn σ1) k) then True else (if (2000 : Int32) < x3 then True else ((m_ts_ok (m_po σ1 ((2000 : Int32) - x3))) ∧ (mf_ticksUntilAvailable_ok48 σ k u j (m_ts (m_po σ1 ((2000 : Int32) - x3))) ((x3 + (m_po_r σ1 ((2000 : Int32) - x3))) + Int32.ofInt (1))))))
theorem fr_mf_ticksUntilAvailable_fl48 {σ : pr_I} {k : Nat} {u : Int32} {o : Nat} (hms : ∀ m ∈ ([0, 1, 8, 9, 10] : List Nat), o ≠ m) : ∀ {j : Nat} {σ1 : pr_I} {x3 : Int32}, (mf_ticksUntilAvailable_fl48 σ k u j σ1 x3).1 o = σ1 o := by
  simp only [List.mem_cons, List.not_mem_nil, or_false, forall_eq_or_imp, forall_eq] at hms
  intro j
  induction j with
  | zero => intro _ _; rfl
  | succ j ih =>
    intro σ1 x3
    show ((if u ≤ (m_av_r σ1 (mtn σ1) k) then ((pr_row σ1 1 (cp_row (cp_row (σ 1) (σ 2) 5384) (σ1 1) 5384)), (if x3 ≤ (2000 : Int32) then x3 else ((-1) : Int32))) else (if (2000 : Int32) < x3 then ((pr_row σ1 1 (cp_row (cp_row (σ 1) (σ 2) 5384) (σ1 1) 5384)), (if x3 ≤ (2000 : Int32) then x3 else ((-1) : Int32))) else (mf_ticksUntilAvailable_fl48 σ k u j (m_ts (m_po σ1 ((2000 : Int32) - x3))) ((x3 + (m_po_r σ1 ((2000 : Int32) - x3))) + Int32.ofInt (1)))))).1 o = σ1 o
    by_cases c_54 : u ≤ (m_av_r σ1 (mtn σ1) k)
    · refine (congrFun (congrArg (fun z : pr_I × Int32 => z.1) (if_pos c_54)) o).trans ?_
      show (pr_row σ1 1 (cp_row (cp_row (σ 1) (σ 2) 5384) (σ1 1) 5384)) o = σ1 o
      rw [pr_row_ne (by omega)]
    · refine (congrFun (congrArg (fun z : pr_I × Int32 => z.1) (if_neg c_54)) o).trans ?_
      by_cases c_61 : (2000 : Int32) < x3
      · refine (congrFun (congrArg (fun z : pr_I × Int32 => z.1) (if_pos c_61)) o).trans ?_
        show (pr_row σ1 1 (cp_row (cp_row (σ 1) (σ 2) 5384) (σ1 1) 5384)) o = σ1 o
        rw [pr_row_ne (by omega)]
      · refine (congrFun (congrArg (fun z : pr_I × Int32 => z.1) (if_neg c_61)) o).trans ?_
        rw [ih, fr_m_ts (by simp only [List.mem_cons, List.not_mem_nil, or_false, forall_eq_or_imp, forall_eq]; omega), fr_m_po (by simp only [List.mem_cons, List.not_mem_nil, or_false, forall_eq_or_imp, forall_eq]; omega)]

noncomputable def mf_ticksUntilAvailable_r (σ : pr_I) (k : Nat) (u : Int32) : Int32 := ((mf_ticksUntilAvailable_fl48 σ k u (sl 2002) (pr_row (pr_up σ 0 6 (0 : Int32)) 2 (cp_row (σ 1) (σ 2) 5384)) (0 : Int32)).2)
noncomputable def mf_ticksUntilAvailable (σ : pr_I) (k : Nat) (u : Int32) : pr_I := (mf_ticksUntilAvailable_fl48 σ k u (sl 2002) (pr_row (pr_up σ 0 6 (0 : Int32)) 2 (cp_row (σ 1) (σ 2) 5384)) (0 : Int32)).1
set_option maxRecDepth 100000 in
set_option maxHeartbeats 400000 in
theorem c_mf_ticksUntilAvailable {g : pr_C} {l : Launch} (hl : l.stackTraces = false) {T : pr_T} {I : pr_I} {L : pr_L} {m : Nat} {σ : pr_I} {k : Nat} {u : Int32} (hm : pr_Mo T m) (hI : mI σ) (hk : k < mln σ) (hu1 : 0 ≤ u) (hu2 : u ≤ 1000) (hok : mf_ticksUntilAvailable_ok48 σ k u (sl 2002) (pr_row (pr_up σ 0 6 (0 : Int32)) 2 (cp_row (σ 1) (σ 2) 5384)) (0 : Int32)) : pr_M g l 11 0 0 mX8_ticksUntilAvailable [.ref m, .int (nI k), .int u] T (rg_put I m 16 σ) L (pr_R (some (.int (mf_ticksUntilAvailable_r σ k u))) T (rg_put I m 16 (mf_ticksUntilAvailable σ k u)) L) pr_no := by
  refine pr_ofG (by decide) rfl hl (Nat.le_of_ble_eq_true rfl) (fun X hA hX hXn hXt => ?_)
  subst hX
  show pr_G g X mX8_ticksUntilAvailable.2.2.1 _ 0 0 0 [.ref m, .int (nI k), .int u, .null] [] T (rg_put I m 16 σ) L
  have hn5 := mI_n5 hI
  have hr4 := mI_nr4 hI
  have hl24 := mI_nl24 hI
  have hn12 := mI_nn12 hI
  have hsl2002 := sl_eq 2002
  refine pr_aload_n hA dX8_ticksUntilAvailable_0 rfl ?_
  refine pr_iload_n hA dX8_ticksUntilAvailable_1 rfl ?_
  have hv2 : mI σ := hI
  refine pr_callVi hA [.int (nI k)] (c_nl_ok (m := m) (σ := σ) (pr_hl hA) hm hv2 (by omega)) v_X8_315 (mo_k0 hm) (by decide) rfl rfl rfl (by decide) (Nat.zero_le _) (Nat.zero_le _) rfl (Nat.le_of_ble_eq_true rfl) dX8_ticksUntilAvailable_2 ?_
  refine pr_if_ne hA 33 dX8_ticksUntilAvailable_5 (by decide) (fun c_5 => ?_) (fun c_5 => ?_)
  · exact (c_5 (by decide)).elim
  · refine pr_aload_n hA dX8_ticksUntilAvailable_8 rfl ?_
    refine pr_iload_n hA dX8_ticksUntilAvailable_9 rfl ?_
    refine pr_i2l hA dX8_ticksUntilAvailable_10 ?_
    refine pr_lconst hA 0 dX8_ticksUntilAvailable_11 (by decide) ?_
    refine pr_ldc2 hA kK_X8_299 dX8_ticksUntilAvailable_12 ?_
    refine pr_callSi hA [.long ((u).toInt64), .long (0 : Int64), .long (1000 : Int64)] (c_inE (m := m) (σ := (pr_up σ 0 6 (0 : Int32))) (v := 1) (pr_hl hA) hm (in_z1 hu1 hu2 (by decide) (by decide))) s_X8_80 rfl (by decide) (Nat.zero_le _) (Nat.zero_le _) rfl (Nat.le_of_ble_eq_true rfl) dX8_ticksUntilAvailable_15 ?_
    refine pr_if_ne hA 25 dX8_ticksUntilAvailable_18 (by decide) (fun c_18 => ?_) (fun c_18 => ?_)
    · refine pr_iconst hA (0) dX8_ticksUntilAvailable_25 (by decide) ?_
      refine pr_iconst hA (2) dX8_ticksUntilAvailable_26 (by decide) ?_
      refine pr_callVi hA [.int (0 : Int32), .int (2 : Int32)] (c_tiE (m := m) (σ := (pr_up σ 0 6 (0 : Int32))) (pr_hl hA) hm (ti_0 pr_upe)) v_X8_301 (mo_k0 hm) (by decide) rfl rfl rfl (by decide) (Nat.zero_le _) (Nat.zero_le _) rfl (Nat.le_of_ble_eq_true rfl) dX8_ticksUntilAvailable_27 ?_
      refine pr_if_eq hA 35 dX8_ticksUntilAvailable_30 (by decide) (fun c_30 => ?_) (fun c_30 => ?_)
      · refine pr_aload_n hA dX8_ticksUntilAvailable_35 rfl ?_
        refine pr_getR hA f_X8_9 rfl (mo_k0 hm) (mo_f0_0 hm) dX8_ticksUntilAvailable_36 ?_
        refine pr_aload_n hA dX8_ticksUntilAvailable_39 rfl ?_
        refine pr_getR hA f_X8_13 rfl (mo_k0 hm) (mo_f0_1 hm) dX8_ticksUntilAvailable_40 ?_
        refine pr_callSv hA [.ref (m + 1), .ref (m + 2)] (c_copiesE (pr_hl hA) (mo_k1 hm) (mo_k2 hm) (by omega) ((rg_row (by decide)).trans (pr_up_ne (by decide))) ((rg_row (by decide)).trans (pr_up_ne (by decide))) (rg_put_row (by decide))) s_X8_193 rfl (by decide) (Nat.zero_le _) (Nat.zero_le _) rfl (Nat.le_of_ble_eq_true rfl) dX8_ticksUntilAvailable_43 ?_
        refine pr_iconst hA (0) dX8_ticksUntilAvailable_46 (by decide) ?_
        refine pr_istore_n (ls' := [_, _, _, _]) hA dX8_ticksUntilAvailable_47 (by decide) rfl ?_
        obtain ⟨R, hR0⟩ : ∃ R, mf_ticksUntilAvailable_fl48 σ k u (sl 2002) (pr_row (pr_up σ 0 6 (0 : Int32)) 2 (cp_row (σ 1) (σ 2) 5384)) (0 : Int32) = R := ⟨_, rfl⟩
        have hf : mf_ticksUntilAvailable_r σ k u = R.2 := by simp only [mf_ticksUntilAvailable_r, hR0]
        have hm0 : mf_ticksUntilAvailable σ k u = R.1 := by simp only [mf_ticksUntilAvailable, hR0]
        have lp48 : ∀ (j : Nat) (σ1 : pr_I) (x3 : Int32), mI σ1 → (∀ {o : Nat}, (∀ m ∈ ([0, 1, 8, 9, 10] : List Nat), o ≠ m) → σ1 o = (pr_row (pr_up σ 0 6 (0 : Int32)) 2 (cp_row (σ 1) (σ 2) 5384)) o) → mf_ticksUntilAvailable_ok48 σ k u j σ1 x3 → mf_ticksUntilAvailable_fl48 σ k u j σ1 x3 = R → pr_G g X mX8_ticksUntilAvailable.2.2.1 (pr_MQ g X (pr_R (some (.int (mf_ticksUntilAvailable_r σ k u))) T (rg_put I m 16 (mf_ticksUntilAvailable σ k u)) L) pr_no 0 0) 0 0 48 [.ref m, .int (nI k), .int u, .int x3] [] T (rg_put I m 16 σ1) L := by
          intro j
          induction j with
          | zero => intro σ1 x3 hJ hσ1 hok hR; exact hok.elim
          | succ j ih =>
            intro σ1 x3 hJ hσ1 hok hR
            have jn5 := mI_n5 hJ
            have jr4 := mI_nr4 hJ
            have jl24 := mI_nl24 hJ
            have jn12 := mI_nn12 hJ
            refine pr_aload_n hA dX8_ticksUntilAvailable_48 rfl ?_
            refine pr_iload_n hA dX8_ticksUntilAvailable_49 rfl ?_
            have hv50 : mI σ1 := hJ
            refine pr_callVi hA [.int (nI k)] (c_m_av (m := m) (σ := σ1) (n := (mtn σ1)) (lk := k) (pr_hl hA) hm (mI_n hv50) (mI_n5 hv50) (by omega)) v_X8_209 (mo_k0 hm) (by decide) rfl rfl rfl (by decide) (Nat.zero_le _) (Nat.zero_le _) rfl (Nat.le_of_ble_eq_true rfl) dX8_ticksUntilAvailable_50 ?_
            refine pr_iload_n hA dX8_ticksUntilAvailable_53 rfl ?_
            refine pr_icmp_ge hA 86 dX8_ticksUntilAvailable_54 (by decide) (fun c_54 => ?_) (fun c_54 => ?_)
            · refine pr_aload_n hA dX8_ticksUntilAvailable_86 rfl ?_
              refine pr_getR hA f_X8_13 rfl (mo_k0 hm) (mo_f0_1 hm) dX8_ticksUntilAvailable_87 ?_
              refine pr_aload_n hA dX8_ticksUntilAvailable_90 rfl ?_
              refine pr_getR hA f_X8_9 rfl (mo_k0 hm) (mo_f0_0 hm) dX8_ticksUntilAvailable_91 ?_
              refine pr_callSv hA [.ref (m + 2), .ref (m + 1)] (c_copiesE (pr_hl hA) (mo_k2 hm) (mo_k1 hm) (by omega) ((rg_row (by decide)).trans ((hσ1 (by decide)).trans pr_row_eq)) (rg_row (by decide)) (rg_put_row (by decide))) s_X8_193 rfl (by decide) (Nat.zero_le _) (Nat.zero_le _) rfl (Nat.le_of_ble_eq_true rfl) dX8_ticksUntilAvailable_94 ?_
              refine pr_iload_n hA dX8_ticksUntilAvailable_97 rfl ?_
              refine pr_sipush hA (2000) dX8_ticksUntilAvailable_98 (by decide) ?_
              refine pr_join (c := x3 ≤ (2000 : Int32)) (J := 109) (st := []) x3 ((-1) : Int32) inferInstance (fun kt kf => ?_) ?_
              · refine pr_icmp_le hA 108 dX8_ticksUntilAvailable_101 (by decide) (fun c_101 => ?_) (fun c_101 => ?_)
                · refine pr_iload_n hA dX8_ticksUntilAvailable_108 rfl ?_
                  exact kt c_101
                · refine pr_iconst hA ((-1)) dX8_ticksUntilAvailable_104 (by decide) ?_
                  refine pr_goto hA 109 dX8_ticksUntilAvailable_105 (by decide) ?_
                  exact kf c_101
              · simp only [mf_ticksUntilAvailable_fl48, if_pos c_54] at hR
                exact pr_ireturn hA rfl rfl (Nat.zero_le _) (Nat.zero_le _) dX8_ticksUntilAvailable_109 ⟨(by first | (rw [hf, ← hR]; done) | (rw [hf, ← hR]; simp only [if_pos c_54])), rfl, (by rw [hm0, ← hR]), rfl⟩
            · refine pr_iload_n hA dX8_ticksUntilAvailable_57 rfl ?_
              refine pr_sipush hA (2000) dX8_ticksUntilAvailable_58 (by decide) ?_
              refine pr_icmp_gt hA 86 dX8_ticksUntilAvailable_61 (by decide) (fun c_61 => ?_) (fun c_61 => ?_)
              · refine pr_aload_n hA dX8_ticksUntilAvailable_86 rfl ?_
                refine pr_getR hA f_X8_13 rfl (mo_k0 hm) (mo_f0_1 hm) dX8_ticksUntilAvailable_87 ?_
                refine pr_aload_n hA dX8_ticksUntilAvailable_90 rfl ?_
                refine pr_getR hA f_X8_9 rfl (mo_k0 hm) (mo_f0_0 hm) dX8_ticksUntilAvailable_91 ?_
                refine pr_callSv hA [.ref (m + 2), .ref (m + 1)] (c_copiesE (pr_hl hA) (mo_k2 hm) (mo_k1 hm) (by omega) ((rg_row (by decide)).trans ((hσ1 (by decide)).trans pr_row_eq)) (rg_row (by decide)) (rg_put_row (by decide))) s_X8_193 rfl (by decide) (Nat.zero_le _) (Nat.zero_le _) rfl (Nat.le_of_ble_eq_true rfl) dX8_ticksUntilAvailable_94 ?_
                refine pr_iload_n hA dX8_ticksUntilAvailable_97 rfl ?_
                refine pr_sipush hA (2000) dX8_ticksUntilAvailable_98 (by decide) ?_
                refine pr_join (c := x3 ≤ (2000 : Int32)) (J := 109) (st := []) x3 ((-1) : Int32) inferInstance (fun kt kf => ?_) ?_
                · refine pr_icmp_le hA 108 dX8_ticksUntilAvailable_101 (by decide) (fun c_101 => ?_) (fun c_101 => ?_)
                  · refine pr_iload_n hA dX8_ticksUntilAvailable_108 rfl ?_
                    exact kt c_101
                  · refine pr_iconst hA ((-1)) dX8_ticksUntilAvailable_104 (by decide) ?_
                    refine pr_goto hA 109 dX8_ticksUntilAvailable_105 (by decide) ?_
                    exact kf c_101
                · simp only [mf_ticksUntilAvailable_fl48, if_neg c_54, if_pos c_61] at hR
                  exact pr_ireturn hA rfl rfl (Nat.zero_le _) (Nat.zero_le _) dX8_ticksUntilAvailable_109 ⟨(by first | (rw [hf, ← hR]; done) | (rw [hf, ← hR]; simp only [if_neg c_54, if_pos c_61])), rfl, (by rw [hm0, ← hR]), rfl⟩
              · refine pr_iload_n hA dX8_ticksUntilAvailable_64 rfl ?_
                refine pr_aload_n hA dX8_ticksUntilAvailable_65 rfl ?_
                refine pr_sipush hA (2000) dX8_ticksUntilAvailable_66 (by decide) ?_
                refine pr_iload_n hA dX8_ticksUntilAvailable_69 rfl ?_
                refine pr_isub hA dX8_ticksUntilAvailable_70 ?_
                have hv71 : mI σ1 := hJ
                refine pr_callVi hA [.int ((2000 : Int32) - x3)] (c_m_po (m := m) (σ := σ1) (z := ((2000 : Int32) - x3)) (pr_hl hA) hm hv71) v_X8_293 (mo_k0 hm) (by decide) rfl rfl rfl (by decide) (Nat.zero_le _) (Nat.zero_le _) rfl (Nat.le_of_ble_eq_true rfl) dX8_ticksUntilAvailable_71 ?_
                refine pr_iadd hA dX8_ticksUntilAvailable_74 ?_
                refine pr_istore_n (ls' := [_, _, _, _]) hA dX8_ticksUntilAvailable_75 (by decide) rfl ?_
                refine pr_aload_n hA dX8_ticksUntilAvailable_76 rfl ?_
                have hk77 := hok
                simp only [mf_ticksUntilAvailable_ok48, if_neg c_54, if_neg c_61] at hk77
                have hneed77 := hk77.1
                have hv77 : mI (m_po σ1 ((2000 : Int32) - x3)) := (mI_m_po (σ := σ1) hJ)
                refine pr_callVv hA [] (c_m_ts (m := m) (σ := (m_po σ1 ((2000 : Int32) - x3))) (pr_hl hA) hm hv77 hneed77) v_X8_296 (mo_k0 hm) (by decide) rfl rfl rfl (by decide) (Nat.zero_le _) (Nat.zero_le _) rfl (Nat.le_of_ble_eq_true rfl) dX8_ticksUntilAvailable_77 ?_
                refine pr_iinc (ls' := [_, _, _, _]) hA ((x3 + (m_po_r σ1 ((2000 : Int32) - x3))) + Int32.ofInt (1)) dX8_ticksUntilAvailable_80 (by decide) rfl rfl rfl ?_
                refine pr_goto hA 48 dX8_ticksUntilAvailable_83 (by decide) ?_
                simp only [mf_ticksUntilAvailable_fl48, if_neg c_54, if_neg c_61] at hR
                simp only [mf_ticksUntilAvailable_ok48, if_neg c_54, if_neg c_61] at hok
                exact (ih (m_ts (m_po σ1 ((2000 : Int32) - x3))) ((x3 + (m_po_r σ1 ((2000 : Int32) - x3))) + Int32.ofInt (1)) (mI_m_ts (σ := (m_po σ1 ((2000 : Int32) - x3))) (mI_m_po (σ := σ1) hJ) hneed77) (by intro o hms; simp only [List.mem_cons, List.not_mem_nil, or_false, forall_eq_or_imp, forall_eq] at hms; rw [fr_m_ts (by simp only [List.mem_cons, List.not_mem_nil, or_false, forall_eq_or_imp, forall_eq]; omega), fr_m_po (by simp only [List.mem_cons, List.not_mem_nil, or_false, forall_eq_or_imp, forall_eq]; omega)]; exact hσ1 (by simp only [List.mem_cons, List.not_mem_nil, or_false, forall_eq_or_imp, forall_eq]; omega)) hok.2 hR)
        exact (lp48 (sl 2002) (pr_row (pr_up σ 0 6 (0 : Int32)) 2 (cp_row (σ 1) (σ 2) 5384)) (0 : Int32) (mI.cp (mI.upn hI rfl) (by decide) (by decide) (mI_rw hI (by decide) (by decide))) (fun _ => rfl) hok hR0)
      · exact (c_30 (by decide)).elim
    · exact absurd c_18 (by decide)

theorem fr_mf_ticksUntilAvailable {σ : pr_I} {k : Nat} {u : Int32} {o : Nat} (hms : ∀ m ∈ ([0, 1, 2, 8, 9, 10] : List Nat), o ≠ m) : mf_ticksUntilAvailable σ k u o = σ o := by
  unfold mf_ticksUntilAvailable
  simp only [List.mem_cons, List.not_mem_nil, or_false, forall_eq_or_imp, forall_eq] at hms
  rw [fr_mf_ticksUntilAvailable_fl48 (by simp only [List.mem_cons, List.not_mem_nil, or_false, forall_eq_or_imp, forall_eq]; omega), pr_row_ne (by omega), pr_up_ne (by omega)]

noncomputable def mf_ticksUntilQuiet_fl28 (σ : pr_I) : Nat → pr_I → Int32 → pr_I × Int32
  | 0, σ1, _ => (σ1, 0)
  | j + 1, σ1, x2 => (if x2 = ((-1) : Int32) then ((pr_row σ1 1 (cp_row (cp_row (σ 1) (σ 2) 5384) (σ1 1) 5384)), (if x2 = ((-1) : Int32) then ((σ1 1 0) - (σ 1 0)) else ((-1) : Int32))) else (if (20000 : Int32) < (x2 - (σ 1 0)) then ((pr_row σ1 1 (cp_row (cp_row (σ 1) (σ 2) 5384) (σ1 1) 5384)), (if x2 = ((-1) : Int32) then ((σ1 1 0) - (σ 1 0)) else ((-1) : Int32))) else (mf_ticksUntilQuiet_fl28 σ j (m_ts (pr_up σ1 1 0 (x2 - (1 : Int32)))) (m_ne_r (m_ts (pr_up σ1 1 0 (x2 - (1 : Int32))))))))
def mf_ticksUntilQuiet_ok28 (σ : pr_I) : Nat → pr_I → Int32 → Prop
  | 0, _, _ => False
  | j + 1, σ1, x2 => (if x2 = ((-1) : Int32) then True else (if (20000 : Int32) < (x2 - (σ 1 0)) then True else ((m_ts_ok (pr_up σ1 1 0 (x2 - (1 : Int32)))) ∧ (mf_ticksUntilQuiet_ok28 σ j (m_ts (pr_up σ1 1 0 (x2 - (1 : Int32)))) (m_ne_r (m_ts (pr_up σ1 1 0 (x2 - (1 : Int32)))))))))
theorem fr_mf_ticksUntilQuiet_fl28 {σ : pr_I} {o : Nat} (hms : ∀ m ∈ ([0, 1, 8, 9, 10] : List Nat), o ≠ m) : ∀ {j : Nat} {σ1 : pr_I} {x2 : Int32}, (mf_ticksUntilQuiet_fl28 σ j σ1 x2).1 o = σ1 o := by
  simp only [List.mem_cons, List.not_mem_nil, or_false, forall_eq_or_imp, forall_eq] at hms
  intro j
  induction j with
  | zero => intro _ _; rfl
  | succ j ih =>
    intro σ1 x2
    show ((if x2 = ((-1) : Int32) then ((pr_row σ1 1 (cp_row (cp_row (σ 1) (σ 2) 5384) (σ1 1) 5384)), (if x2 = ((-1) : Int32) then ((σ1 1 0) - (σ 1 0)) else ((-1) : Int32))) else (if (20000 : Int32) < (x2 - (σ 1 0)) then ((pr_row σ1 1 (cp_row (cp_row (σ 1) (σ 2) 5384) (σ1 1) 5384)), (if x2 = ((-1) : Int32) then ((σ1 1 0) - (σ 1 0)) else ((-1) : Int32))) else (mf_ticksUntilQuiet_fl28 σ j (m_ts (pr_up σ1 1 0 (x2 - (1 : Int32)))) (m_ne_r (m_ts (pr_up σ1 1 0 (x2 - (1 : Int32))))))))).1 o = σ1 o
    by_cases c_30 : x2 = ((-1) : Int32)
    · refine (congrFun (congrArg (fun z : pr_I × Int32 => z.1) (if_pos c_30)) o).trans ?_
      show (pr_row σ1 1 (cp_row (cp_row (σ 1) (σ 2) 5384) (σ1 1) 5384)) o = σ1 o
      rw [pr_row_ne (by omega)]
    · refine (congrFun (congrArg (fun z : pr_I × Int32 => z.1) (if_neg c_30)) o).trans ?_
      by_cases c_39 : (20000 : Int32) < (x2 - (σ 1 0))
      · refine (congrFun (congrArg (fun z : pr_I × Int32 => z.1) (if_pos c_39)) o).trans ?_
        show (pr_row σ1 1 (cp_row (cp_row (σ 1) (σ 2) 5384) (σ1 1) 5384)) o = σ1 o
        rw [pr_row_ne (by omega)]
      · refine (congrFun (congrArg (fun z : pr_I × Int32 => z.1) (if_neg c_39)) o).trans ?_
        rw [ih, fr_m_ts (by simp only [List.mem_cons, List.not_mem_nil, or_false, forall_eq_or_imp, forall_eq]; omega), pr_up_ne (by omega)]

noncomputable def mf_ticksUntilQuiet_r (σ : pr_I) : Int32 := ((mf_ticksUntilQuiet_fl28 σ (sl 20001) (pr_row (pr_up σ 0 6 (0 : Int32)) 2 (cp_row (σ 1) (σ 2) 5384)) (m_ne_r (pr_row (pr_up σ 0 6 (0 : Int32)) 2 (cp_row (σ 1) (σ 2) 5384)))).2)
noncomputable def mf_ticksUntilQuiet (σ : pr_I) : pr_I := (mf_ticksUntilQuiet_fl28 σ (sl 20001) (pr_row (pr_up σ 0 6 (0 : Int32)) 2 (cp_row (σ 1) (σ 2) 5384)) (m_ne_r (pr_row (pr_up σ 0 6 (0 : Int32)) 2 (cp_row (σ 1) (σ 2) 5384)))).1
set_option maxRecDepth 100000 in
set_option maxHeartbeats 400000 in
theorem c_mf_ticksUntilQuiet {g : pr_C} {l : Launch} (hl : l.stackTraces = false) {T : pr_T} {I : pr_I} {L : pr_L} {m : Nat} {σ : pr_I}  (hm : pr_Mo T m) (hI : mI σ) (hok : mf_ticksUntilQuiet_ok28 σ (sl 20001) (pr_row (pr_up σ 0 6 (0 : Int32)) 2 (cp_row (σ 1) (σ 2) 5384)) (m_ne_r (pr_row (pr_up σ 0 6 (0 : Int32)) 2 (cp_row (σ 1) (σ 2) 5384)))) : pr_M g l 11 0 0 mX8_ticksUntilQuiet [.ref m] T (rg_put I m 16 σ) L (pr_R (some (.int (mf_ticksUntilQuiet_r σ))) T (rg_put I m 16 (mf_ticksUntilQuiet σ)) L) pr_no := by
  refine pr_ofG (by decide) rfl hl (Nat.le_of_ble_eq_true rfl) (fun X hA hX hXn hXt => ?_)
  subst hX
  show pr_G g X mX8_ticksUntilQuiet.2.2.1 _ 0 0 0 [.ref m, .null, .null, .null] [] T (rg_put I m 16 σ) L
  have hn5 := mI_n5 hI
  have hr4 := mI_nr4 hI
  have hl24 := mI_nl24 hI
  have hn12 := mI_nn12 hI
  have hsl20001 := sl_eq 20001
  refine pr_aload_n hA dX8_ticksUntilQuiet_0 rfl ?_
  refine pr_iconst hA (0) dX8_ticksUntilQuiet_1 (by decide) ?_
  refine pr_putE (I' := (rg_put I m 16 (pr_up σ 0 6 (0 : Int32)))) hA f_X8_60 rfl (mo_k0 hm) (rg_up0 (by decide)) dX8_ticksUntilQuiet_2 ?_
  refine pr_aload_n hA dX8_ticksUntilQuiet_5 rfl ?_
  refine pr_getR hA f_X8_9 rfl (mo_k0 hm) (mo_f0_0 hm) dX8_ticksUntilQuiet_6 ?_
  refine pr_aload_n hA dX8_ticksUntilQuiet_9 rfl ?_
  refine pr_getR hA f_X8_13 rfl (mo_k0 hm) (mo_f0_1 hm) dX8_ticksUntilQuiet_10 ?_
  refine pr_callSv hA [.ref (m + 1), .ref (m + 2)] (c_copiesE (pr_hl hA) (mo_k1 hm) (mo_k2 hm) (by omega) ((rg_row (by decide)).trans (pr_up_ne (by decide))) ((rg_row (by decide)).trans (pr_up_ne (by decide))) (rg_put_row (by decide))) s_X8_193 rfl (by decide) (Nat.zero_le _) (Nat.zero_le _) rfl (Nat.le_of_ble_eq_true rfl) dX8_ticksUntilQuiet_13 ?_
  refine pr_aload_n hA dX8_ticksUntilQuiet_16 rfl ?_
  refine pr_getR hA f_X8_9 rfl (mo_k0 hm) (mo_f0_0 hm) dX8_ticksUntilQuiet_17 ?_
  refine pr_iconst hA (nI 0) dX8_ticksUntilQuiet_20 (by decide) ?_
  refine pr_ialdM (v := (σ 1 0)) hA (mo_k1 hm) (by omega) (by omega) ((rg_val (by decide)).trans ((pr_rwv (by decide)).trans (pr_upv (by decide)))) dX8_ticksUntilQuiet_21 ?_
  refine pr_istore_n (ls' := [_, _, _, _]) hA dX8_ticksUntilQuiet_22 (by decide) rfl ?_
  refine pr_aload_n hA dX8_ticksUntilQuiet_23 rfl ?_
  have hv24 : mI (pr_row (pr_up σ 0 6 (0 : Int32)) 2 (cp_row (σ 1) (σ 2) 5384)) := (mI.cp (mI.upn hI rfl) (by decide) (by decide) (mI_rw hI (by decide) (by decide)))
  refine pr_callVi hA [] (c_m_ne (m := m) (σ := (pr_row (pr_up σ 0 6 (0 : Int32)) 2 (cp_row (σ 1) (σ 2) 5384))) (pr_hl hA) hm hv24) v_X8_287 (mo_k0 hm) (by decide) rfl rfl rfl (by decide) (Nat.zero_le _) (Nat.zero_le _) rfl (Nat.le_of_ble_eq_true rfl) dX8_ticksUntilQuiet_24 ?_
  refine pr_istore_n (ls' := [_, _, _, _]) hA dX8_ticksUntilQuiet_27 (by decide) rfl ?_
  obtain ⟨R, hR0⟩ : ∃ R, mf_ticksUntilQuiet_fl28 σ (sl 20001) (pr_row (pr_up σ 0 6 (0 : Int32)) 2 (cp_row (σ 1) (σ 2) 5384)) (m_ne_r (pr_row (pr_up σ 0 6 (0 : Int32)) 2 (cp_row (σ 1) (σ 2) 5384))) = R := ⟨_, rfl⟩
  have hf : mf_ticksUntilQuiet_r σ = R.2 := by simp only [mf_ticksUntilQuiet_r, hR0]
  have hm0 : mf_ticksUntilQuiet σ = R.1 := by simp only [mf_ticksUntilQuiet, hR0]
  have lp28 : ∀ (j : Nat) (σ1 : pr_I) (x2 : Int32), mI σ1 → (∀ {o : Nat}, (∀ m ∈ ([0, 1, 8, 9, 10] : List Nat), o ≠ m) → σ1 o = (pr_row (pr_up σ 0 6 (0 : Int32)) 2 (cp_row (σ 1) (σ 2) 5384)) o) → mf_ticksUntilQuiet_ok28 σ j σ1 x2 → mf_ticksUntilQuiet_fl28 σ j σ1 x2 = R → pr_G g X mX8_ticksUntilQuiet.2.2.1 (pr_MQ g X (pr_R (some (.int (mf_ticksUntilQuiet_r σ))) T (rg_put I m 16 (mf_ticksUntilQuiet σ)) L) pr_no 0 0) 0 0 28 [.ref m, .int (σ 1 0), .int x2, .null] [] T (rg_put I m 16 σ1) L := by
    intro j
    induction j with
    | zero => intro σ1 x2 hJ hσ1 hok hR; exact hok.elim
    | succ j ih =>
      intro σ1 x2 hJ hσ1 hok hR
      have jn5 := mI_n5 hJ
      have jr4 := mI_nr4 hJ
      have jl24 := mI_nl24 hJ
      have jn12 := mI_nn12 hJ
      refine pr_iload_n hA dX8_ticksUntilQuiet_28 rfl ?_
      refine pr_iconst hA ((-1)) dX8_ticksUntilQuiet_29 (by decide) ?_
      refine pr_icmp_eq hA 63 dX8_ticksUntilQuiet_30 (by decide) (fun c_30 => ?_) (fun c_30 => ?_)
      · refine pr_iload_n hA dX8_ticksUntilQuiet_63 rfl ?_
        refine pr_iconst hA ((-1)) dX8_ticksUntilQuiet_64 (by decide) ?_
        refine pr_join (c := x2 = ((-1) : Int32)) (J := 80) (st := []) ((σ1 1 0) - (σ 1 0)) ((-1) : Int32) inferInstance (fun kt kf => ?_) ?_
        · refine pr_icmp_eq hA 72 dX8_ticksUntilQuiet_65 (by decide) (fun c_65 => ?_) (fun c_65 => ?_)
          · refine pr_aload_n hA dX8_ticksUntilQuiet_72 rfl ?_
            refine pr_getR hA f_X8_9 rfl (mo_k0 hm) (mo_f0_0 hm) dX8_ticksUntilQuiet_73 ?_
            refine pr_iconst hA (nI 0) dX8_ticksUntilQuiet_76 (by decide) ?_
            refine pr_ialdM (v := (σ1 1 0)) hA (mo_k1 hm) (by omega) (by omega) (rg_val (by decide)) dX8_ticksUntilQuiet_77 ?_
            refine pr_iload_n hA dX8_ticksUntilQuiet_78 rfl ?_
            refine pr_isub hA dX8_ticksUntilQuiet_79 ?_
            exact kt c_65
          · refine pr_iconst hA ((-1)) dX8_ticksUntilQuiet_68 (by decide) ?_
            refine pr_goto hA 80 dX8_ticksUntilQuiet_69 (by decide) ?_
            exact kf c_65
        · refine pr_istore_n (ls' := [_, _, _, _]) hA dX8_ticksUntilQuiet_80 (by decide) rfl ?_
          refine pr_aload_n hA dX8_ticksUntilQuiet_81 rfl ?_
          refine pr_getR hA f_X8_13 rfl (mo_k0 hm) (mo_f0_1 hm) dX8_ticksUntilQuiet_82 ?_
          refine pr_aload_n hA dX8_ticksUntilQuiet_85 rfl ?_
          refine pr_getR hA f_X8_9 rfl (mo_k0 hm) (mo_f0_0 hm) dX8_ticksUntilQuiet_86 ?_
          refine pr_callSv hA [.ref (m + 2), .ref (m + 1)] (c_copiesE (pr_hl hA) (mo_k2 hm) (mo_k1 hm) (by omega) ((rg_row (by decide)).trans ((hσ1 (by decide)).trans pr_row_eq)) (rg_row (by decide)) (rg_put_row (by decide))) s_X8_193 rfl (by decide) (Nat.zero_le _) (Nat.zero_le _) rfl (Nat.le_of_ble_eq_true rfl) dX8_ticksUntilQuiet_89 ?_
          refine pr_iload_n hA dX8_ticksUntilQuiet_92 rfl ?_
          simp only [mf_ticksUntilQuiet_fl28, if_pos c_30] at hR
          exact pr_ireturn hA rfl rfl (Nat.zero_le _) (Nat.zero_le _) dX8_ticksUntilQuiet_93 ⟨(by first | (rw [hf, ← hR]; done) | (rw [hf, ← hR]; simp only [if_pos c_30])), rfl, (by rw [hm0, ← hR]), rfl⟩
      · refine pr_iload_n hA dX8_ticksUntilQuiet_33 rfl ?_
        refine pr_iload_n hA dX8_ticksUntilQuiet_34 rfl ?_
        refine pr_isub hA dX8_ticksUntilQuiet_35 ?_
        refine pr_sipush hA (20000) dX8_ticksUntilQuiet_36 (by decide) ?_
        refine pr_icmp_gt hA 63 dX8_ticksUntilQuiet_39 (by decide) (fun c_39 => ?_) (fun c_39 => ?_)
        · refine pr_iload_n hA dX8_ticksUntilQuiet_63 rfl ?_
          refine pr_iconst hA ((-1)) dX8_ticksUntilQuiet_64 (by decide) ?_
          refine pr_join (c := x2 = ((-1) : Int32)) (J := 80) (st := []) ((σ1 1 0) - (σ 1 0)) ((-1) : Int32) inferInstance (fun kt kf => ?_) ?_
          · refine pr_icmp_eq hA 72 dX8_ticksUntilQuiet_65 (by decide) (fun c_65 => ?_) (fun c_65 => ?_)
            · refine pr_aload_n hA dX8_ticksUntilQuiet_72 rfl ?_
              refine pr_getR hA f_X8_9 rfl (mo_k0 hm) (mo_f0_0 hm) dX8_ticksUntilQuiet_73 ?_
              refine pr_iconst hA (nI 0) dX8_ticksUntilQuiet_76 (by decide) ?_
              refine pr_ialdM (v := (σ1 1 0)) hA (mo_k1 hm) (by omega) (by omega) (rg_val (by decide)) dX8_ticksUntilQuiet_77 ?_
              refine pr_iload_n hA dX8_ticksUntilQuiet_78 rfl ?_
              refine pr_isub hA dX8_ticksUntilQuiet_79 ?_
              exact kt c_65
            · refine pr_iconst hA ((-1)) dX8_ticksUntilQuiet_68 (by decide) ?_
              refine pr_goto hA 80 dX8_ticksUntilQuiet_69 (by decide) ?_
              exact kf c_65
          · refine pr_istore_n (ls' := [_, _, _, _]) hA dX8_ticksUntilQuiet_80 (by decide) rfl ?_
            refine pr_aload_n hA dX8_ticksUntilQuiet_81 rfl ?_
            refine pr_getR hA f_X8_13 rfl (mo_k0 hm) (mo_f0_1 hm) dX8_ticksUntilQuiet_82 ?_
            refine pr_aload_n hA dX8_ticksUntilQuiet_85 rfl ?_
            refine pr_getR hA f_X8_9 rfl (mo_k0 hm) (mo_f0_0 hm) dX8_ticksUntilQuiet_86 ?_
            refine pr_callSv hA [.ref (m + 2), .ref (m + 1)] (c_copiesE (pr_hl hA) (mo_k2 hm) (mo_k1 hm) (by omega) ((rg_row (by decide)).trans ((hσ1 (by decide)).trans pr_row_eq)) (rg_row (by decide)) (rg_put_row (by decide))) s_X8_193 rfl (by decide) (Nat.zero_le _) (Nat.zero_le _) rfl (Nat.le_of_ble_eq_true rfl) dX8_ticksUntilQuiet_89 ?_
            refine pr_iload_n hA dX8_ticksUntilQuiet_92 rfl ?_
            simp only [mf_ticksUntilQuiet_fl28, if_neg c_30, if_pos c_39] at hR
            exact pr_ireturn hA rfl rfl (Nat.zero_le _) (Nat.zero_le _) dX8_ticksUntilQuiet_93 ⟨(by first | (rw [hf, ← hR]; done) | (rw [hf, ← hR]; simp only [if_neg c_30, if_pos c_39])), rfl, (by rw [hm0, ← hR]), rfl⟩
        · refine pr_aload_n hA dX8_ticksUntilQuiet_42 rfl ?_
          refine pr_getR hA f_X8_9 rfl (mo_k0 hm) (mo_f0_0 hm) dX8_ticksUntilQuiet_43 ?_
          refine pr_iconst hA (nI 0) dX8_ticksUntilQuiet_46 (by decide) ?_
          refine pr_iload_n hA dX8_ticksUntilQuiet_47 rfl ?_
          refine pr_iconst hA (1) dX8_ticksUntilQuiet_48 (by decide) ?_
          refine pr_isub hA dX8_ticksUntilQuiet_49 ?_
          refine pr_iastM (I' := (rg_put I m 16 (pr_up σ1 1 0 (x2 - (1 : Int32))))) hA (mo_k1 hm) (by omega) (by omega) (rg_up (by decide)) dX8_ticksUntilQuiet_50 ?_
          refine pr_aload_n hA dX8_ticksUntilQuiet_51 rfl ?_
          have hk52 := hok
          simp only [mf_ticksUntilQuiet_ok28, if_neg c_30, if_neg c_39] at hk52
          have hneed52 := hk52.1
          have hv52 : mI (pr_up σ1 1 0 (x2 - (1 : Int32))) := (mI.upn hJ rfl)
          refine pr_callVv hA [] (c_m_ts (m := m) (σ := (pr_up σ1 1 0 (x2 - (1 : Int32)))) (pr_hl hA) hm hv52 hneed52) v_X8_296 (mo_k0 hm) (by decide) rfl rfl rfl (by decide) (Nat.zero_le _) (Nat.zero_le _) rfl (Nat.le_of_ble_eq_true rfl) dX8_ticksUntilQuiet_52 ?_
          refine pr_aload_n hA dX8_ticksUntilQuiet_55 rfl ?_
          have hv56 : mI (m_ts (pr_up σ1 1 0 (x2 - (1 : Int32)))) := (mI_m_ts (σ := (pr_up σ1 1 0 (x2 - (1 : Int32)))) (mI.upn hJ rfl) hneed52)
          refine pr_callVi hA [] (c_m_ne (m := m) (σ := (m_ts (pr_up σ1 1 0 (x2 - (1 : Int32))))) (pr_hl hA) hm hv56) v_X8_287 (mo_k0 hm) (by decide) rfl rfl rfl (by decide) (Nat.zero_le _) (Nat.zero_le _) rfl (Nat.le_of_ble_eq_true rfl) dX8_ticksUntilQuiet_56 ?_
          refine pr_istore_n (ls' := [_, _, _, _]) hA dX8_ticksUntilQuiet_59 (by decide) rfl ?_
          refine pr_goto hA 28 dX8_ticksUntilQuiet_60 (by decide) ?_
          simp only [mf_ticksUntilQuiet_fl28, if_neg c_30, if_neg c_39] at hR
          simp only [mf_ticksUntilQuiet_ok28, if_neg c_30, if_neg c_39] at hok
          exact (ih (m_ts (pr_up σ1 1 0 (x2 - (1 : Int32)))) (m_ne_r (m_ts (pr_up σ1 1 0 (x2 - (1 : Int32))))) (mI_m_ts (σ := (pr_up σ1 1 0 (x2 - (1 : Int32)))) (mI.upn hJ rfl) hneed52) (by intro o hms; simp only [List.mem_cons, List.not_mem_nil, or_false, forall_eq_or_imp, forall_eq] at hms; rw [fr_m_ts (by simp only [List.mem_cons, List.not_mem_nil, or_false, forall_eq_or_imp, forall_eq]; omega), pr_up_ne (by omega)]; exact hσ1 (by simp only [List.mem_cons, List.not_mem_nil, or_false, forall_eq_or_imp, forall_eq]; omega)) hok.2 hR)
  exact (lp28 (sl 20001) (pr_row (pr_up σ 0 6 (0 : Int32)) 2 (cp_row (σ 1) (σ 2) 5384)) (m_ne_r (pr_row (pr_up σ 0 6 (0 : Int32)) 2 (cp_row (σ 1) (σ 2) 5384))) (mI.cp (mI.upn hI rfl) (by decide) (by decide) (mI_rw hI (by decide) (by decide))) (fun _ => rfl) hok hR0)

theorem fr_mf_ticksUntilQuiet {σ : pr_I}  {o : Nat} (hms : ∀ m ∈ ([0, 1, 2, 8, 9, 10] : List Nat), o ≠ m) : mf_ticksUntilQuiet σ o = σ o := by
  unfold mf_ticksUntilQuiet
  simp only [List.mem_cons, List.not_mem_nil, or_false, forall_eq_or_imp, forall_eq] at hms
  rw [fr_mf_ticksUntilQuiet_fl28 (by simp only [List.mem_cons, List.not_mem_nil, or_false, forall_eq_or_imp, forall_eq]; omega), pr_row_ne (by omega), pr_up_ne (by omega)]

set_option maxRecDepth 100000 in
set_option maxHeartbeats 400000 in
theorem c_m_slot0 {g : pr_C} {l : Launch} (hl : l.stackTraces = false) {T : pr_T} {I : pr_I} {L : pr_L} {m : Nat} {σ : pr_I} (hm : pr_Mo T m) : pr_M g l 1 0 0 mX8_slotRow [.ref m, .int (nI 0)] T (rg_put I m 16 σ) L (pr_R (some (.ref (m + 4))) T (rg_put I m 16 σ) L) pr_no := by
  refine pr_ofG (by decide) rfl hl (Nat.le_of_ble_eq_true rfl) (fun X hA hX hXn hXt => ?_)
  subst hX
  show pr_G g X mX8_slotRow.2.2.1 _ 0 0 0 [.ref m, .int (nI 0)] [] T (rg_put I m 16 σ) L
  refine pr_iload_n hA dX8_slotRow_0 rfl ?_
  refine pr_if_ne hA 11 dX8_slotRow_1 (by decide) (fun c_1 => ?_) (fun c_1 => ?_)
  · exact absurd (show nI 0 = 0 from rfl) c_1
  · refine pr_aload_n hA dX8_slotRow_4 rfl ?_
    refine pr_getR hA f_X8_19 rfl (mo_k0 hm) (mo_f0_3 hm) dX8_slotRow_5 ?_
    refine pr_goto hA 15 dX8_slotRow_8 (by decide) ?_
    exact pr_areturn hA rfl (Or.inr ⟨_, rfl⟩) (Nat.zero_le _) (Nat.zero_le _) dX8_slotRow_15 ⟨rfl, rfl, rfl, rfl⟩

set_option maxRecDepth 100000 in
set_option maxHeartbeats 400000 in
theorem c_m_slot1 {g : pr_C} {l : Launch} (hl : l.stackTraces = false) {T : pr_T} {I : pr_I} {L : pr_L} {m : Nat} {σ : pr_I} (hm : pr_Mo T m) : pr_M g l 1 0 0 mX8_slotRow [.ref m, .int (nI 1)] T (rg_put I m 16 σ) L (pr_R (some (.ref (m + 5))) T (rg_put I m 16 σ) L) pr_no := by
  refine pr_ofG (by decide) rfl hl (Nat.le_of_ble_eq_true rfl) (fun X hA hX hXn hXt => ?_)
  subst hX
  show pr_G g X mX8_slotRow.2.2.1 _ 0 0 0 [.ref m, .int (nI 1)] [] T (rg_put I m 16 σ) L
  refine pr_iload_n hA dX8_slotRow_0 rfl ?_
  refine pr_if_ne hA 11 dX8_slotRow_1 (by decide) (fun c_1 => ?_) (fun c_1 => ?_)
  · refine pr_aload_n hA dX8_slotRow_11 rfl ?_
    refine pr_getR hA f_X8_22 rfl (mo_k0 hm) (mo_f0_4 hm) dX8_slotRow_12 ?_
    exact pr_areturn hA rfl (Or.inr ⟨_, rfl⟩) (Nat.zero_le _) (Nat.zero_le _) dX8_slotRow_15 ⟨rfl, rfl, rfl, rfl⟩
  · exact absurd c_1 (by decide)

noncomputable def mf_saveSnapshot0_r (σ : pr_I) : Int32 := (σ 1 0)
noncomputable def mf_saveSnapshot0 (σ : pr_I) : pr_I := (pr_up (pr_row (pr_up σ 0 6 (0 : Int32)) 4 (cp_row (σ 1) (σ 4) 5384)) 6 0 (1 : Int32))
set_option maxRecDepth 100000 in
set_option maxHeartbeats 400000 in
theorem c_mf_saveSnapshot0 {g : pr_C} {l : Launch} (hl : l.stackTraces = false) {T : pr_T} {I : pr_I} {L : pr_L} {m : Nat} {σ : pr_I}  (hm : pr_Mo T m) (hI : mI σ) : pr_M g l 11 0 0 mX8_saveSnapshot [.ref m, .int (nI 0)] T (rg_put I m 16 σ) L (pr_R (some (.int (mf_saveSnapshot0_r σ))) T (rg_put I m 16 (mf_saveSnapshot0 σ)) L) pr_no := by
  refine pr_ofG (by decide) rfl hl (Nat.le_of_ble_eq_true rfl) (fun X hA hX hXn hXt => ?_)
  subst hX
  show pr_G g X mX8_saveSnapshot.2.2.1 _ 0 0 0 [.ref m, .int (nI 0)] [] T (rg_put I m 16 σ) L
  have hn5 := mI_n5 hI
  have hr4 := mI_nr4 hI
  have hl24 := mI_nl24 hI
  have hn12 := mI_nn12 hI
  refine pr_aload_n hA dX8_saveSnapshot_0 rfl ?_
  refine pr_iload_n hA dX8_saveSnapshot_1 rfl ?_
  have hv2 : mI σ := hI
  refine pr_callVi hA [.int (nI 0)] (c_ns_ok (m := m) (σ := σ) (pr_hl hA) hm hv2 (by omega)) v_X8_401 (mo_k0 hm) (by decide) rfl rfl rfl (by decide) (Nat.zero_le _) (Nat.zero_le _) rfl (Nat.le_of_ble_eq_true rfl) dX8_saveSnapshot_2 ?_
  refine pr_if_eq hA 10 dX8_saveSnapshot_5 (by decide) (fun c_5 => ?_) (fun c_5 => ?_)
  · refine pr_aload_n hA dX8_saveSnapshot_10 rfl ?_
    refine pr_getR hA f_X8_9 rfl (mo_k0 hm) (mo_f0_0 hm) dX8_saveSnapshot_11 ?_
    refine pr_aload_n hA dX8_saveSnapshot_14 rfl ?_
    refine pr_iload_n hA dX8_saveSnapshot_15 rfl ?_
    refine pr_callVa hA [.int (nI 0)] (c_m_slot0 (m := m) (σ := (pr_up σ 0 6 (0 : Int32))) (pr_hl hA) hm) v_X8_404 (mo_k0 hm) (by decide) rfl rfl rfl (by decide) (Nat.zero_le _) (Nat.zero_le _) rfl (Nat.le_of_ble_eq_true rfl) dX8_saveSnapshot_16 ?_
    refine pr_callSv hA [.ref (m + 1), .ref (m + 4)] (c_copiesE (pr_hl hA) (mo_k1 hm) (mo_k4 hm) (by omega) ((rg_row (by decide)).trans (pr_up_ne (by decide))) ((rg_row (by decide)).trans (pr_up_ne (by decide))) (rg_put_row (by decide))) s_X8_193 rfl (by decide) (Nat.zero_le _) (Nat.zero_le _) rfl (Nat.le_of_ble_eq_true rfl) dX8_saveSnapshot_19 ?_
    refine pr_aload_n hA dX8_saveSnapshot_22 rfl ?_
    refine pr_getR hA f_X8_25 rfl (mo_k0 hm) (mo_f0_5 hm) dX8_saveSnapshot_23 ?_
    refine pr_iload_n hA dX8_saveSnapshot_26 rfl ?_
    refine pr_iconst hA (1) dX8_saveSnapshot_27 (by decide) ?_
    refine pr_zastN (v' := (1 : Int32)) (I' := (rg_put I m 16 (pr_up (pr_row (pr_up σ 0 6 (0 : Int32)) 4 (cp_row (σ 1) (σ 4) 5384)) 6 0 (1 : Int32)))) hA (mo_k6 hm) (by omega) (by omega) (by decide) (rg_up (by decide)) dX8_saveSnapshot_28 ?_
    refine pr_aload_n hA dX8_saveSnapshot_29 rfl ?_
    refine pr_getR hA f_X8_9 rfl (mo_k0 hm) (mo_f0_0 hm) dX8_saveSnapshot_30 ?_
    refine pr_iconst hA (nI 0) dX8_saveSnapshot_33 (by decide) ?_
    refine pr_ialdM (v := (σ 1 0)) hA (mo_k1 hm) (by omega) (by omega) ((rg_val (by decide)).trans ((pr_upv (by decide)).trans ((pr_rwv (by decide)).trans (pr_upv (by decide))))) dX8_saveSnapshot_34 ?_
    exact pr_ireturn hA rfl rfl (Nat.zero_le _) (Nat.zero_le _) dX8_saveSnapshot_35 ⟨rfl, rfl, rfl, rfl⟩
  · exact (c_5 (by decide)).elim

theorem fr_mf_saveSnapshot0 {σ : pr_I}  {o : Nat} (hms : ∀ m ∈ ([0, 4, 6] : List Nat), o ≠ m) : mf_saveSnapshot0 σ o = σ o := by
  unfold mf_saveSnapshot0
  simp only [List.mem_cons, List.not_mem_nil, or_false, forall_eq_or_imp, forall_eq] at hms
  rw [pr_up_ne (by omega), pr_row_ne (by omega), pr_up_ne (by omega)]

noncomputable def mf_restoreSnapshot0_r (σ : pr_I) : Int32 := (if (σ 6 0) = 0 then ((-1) : Int32) else ((cp_row (σ 4) (σ 1) 5384) 0))
noncomputable def mf_restoreSnapshot0 (σ : pr_I) : pr_I := (if (σ 6 0) = 0 then (pr_up σ 0 6 (0 : Int32)) else (pr_row (pr_up σ 0 6 (0 : Int32)) 1 (cp_row (σ 4) (σ 1) 5384)))
set_option maxRecDepth 100000 in
set_option maxHeartbeats 400000 in
theorem c_mf_restoreSnapshot0 {g : pr_C} {l : Launch} (hl : l.stackTraces = false) {T : pr_T} {I : pr_I} {L : pr_L} {m : Nat} {σ : pr_I}  (hm : pr_Mo T m) (hI : mI σ) : pr_M g l 11 0 0 mX8_restoreSnapshot [.ref m, .int (nI 0)] T (rg_put I m 16 σ) L (pr_R (some (.int (mf_restoreSnapshot0_r σ))) T (rg_put I m 16 (mf_restoreSnapshot0 σ)) L) pr_no := by
  refine pr_ofG (by decide) rfl hl (Nat.le_of_ble_eq_true rfl) (fun X hA hX hXn hXt => ?_)
  subst hX
  show pr_G g X mX8_restoreSnapshot.2.2.1 _ 0 0 0 [.ref m, .int (nI 0)] [] T (rg_put I m 16 σ) L
  have hn5 := mI_n5 hI
  have hr4 := mI_nr4 hI
  have hl24 := mI_nl24 hI
  have hn12 := mI_nn12 hI
  refine pr_aload_n hA dX8_restoreSnapshot_0 rfl ?_
  refine pr_iload_n hA dX8_restoreSnapshot_1 rfl ?_
  have hv2 : mI σ := hI
  refine pr_callVi hA [.int (nI 0)] (c_ns_ok (m := m) (σ := σ) (pr_hl hA) hm hv2 (by omega)) v_X8_401 (mo_k0 hm) (by decide) rfl rfl rfl (by decide) (Nat.zero_le _) (Nat.zero_le _) rfl (Nat.le_of_ble_eq_true rfl) dX8_restoreSnapshot_2 ?_
  refine pr_if_eq hA 10 dX8_restoreSnapshot_5 (by decide) (fun c_5 => ?_) (fun c_5 => ?_)
  · refine pr_aload_n hA dX8_restoreSnapshot_10 rfl ?_
    refine pr_getR hA f_X8_25 rfl (mo_k0 hm) (mo_f0_5 hm) dX8_restoreSnapshot_11 ?_
    refine pr_iload_n hA dX8_restoreSnapshot_14 rfl ?_
    refine pr_zaldN (v := (σ 6 0)) hA (mo_k6 hm) (by omega) (by omega) ((rg_val (by decide)).trans (pr_upv (by decide))) dX8_restoreSnapshot_15 ?_
    refine pr_if_ne hA 21 dX8_restoreSnapshot_16 (by decide) (fun c_16 => ?_) (fun c_16 => ?_)
    · refine pr_aload_n hA dX8_restoreSnapshot_21 rfl ?_
      refine pr_iload_n hA dX8_restoreSnapshot_22 rfl ?_
      refine pr_callVa hA [.int (nI 0)] (c_m_slot0 (m := m) (σ := (pr_up σ 0 6 (0 : Int32))) (pr_hl hA) hm) v_X8_404 (mo_k0 hm) (by decide) rfl rfl rfl (by decide) (Nat.zero_le _) (Nat.zero_le _) rfl (Nat.le_of_ble_eq_true rfl) dX8_restoreSnapshot_23 ?_
      refine pr_aload_n hA dX8_restoreSnapshot_26 rfl ?_
      refine pr_getR hA f_X8_9 rfl (mo_k0 hm) (mo_f0_0 hm) dX8_restoreSnapshot_27 ?_
      refine pr_callSv hA [.ref (m + 4), .ref (m + 1)] (c_copiesE (pr_hl hA) (mo_k4 hm) (mo_k1 hm) (by omega) ((rg_row (by decide)).trans (pr_up_ne (by decide))) ((rg_row (by decide)).trans (pr_up_ne (by decide))) (rg_put_row (by decide))) s_X8_193 rfl (by decide) (Nat.zero_le _) (Nat.zero_le _) rfl (Nat.le_of_ble_eq_true rfl) dX8_restoreSnapshot_30 ?_
      refine pr_aload_n hA dX8_restoreSnapshot_33 rfl ?_
      refine pr_getR hA f_X8_9 rfl (mo_k0 hm) (mo_f0_0 hm) dX8_restoreSnapshot_34 ?_
      refine pr_iconst hA (nI 0) dX8_restoreSnapshot_37 (by decide) ?_
      refine pr_ialdM (v := ((cp_row (σ 4) (σ 1) 5384) 0)) hA (mo_k1 hm) (by omega) (by omega) ((rg_val (by decide)).trans pr_rwe) dX8_restoreSnapshot_38 ?_
      exact pr_ireturn hA rfl rfl (Nat.zero_le _) (Nat.zero_le _) dX8_restoreSnapshot_39 ⟨(by simp only [mf_restoreSnapshot0_r, if_neg c_16]), rfl, (by simp only [mf_restoreSnapshot0, if_neg c_16]), rfl⟩
    · refine pr_iconst hA ((-1)) dX8_restoreSnapshot_19 (by decide) ?_
      exact pr_ireturn hA rfl rfl (Nat.zero_le _) (Nat.zero_le _) dX8_restoreSnapshot_20 ⟨(by simp only [mf_restoreSnapshot0_r, if_pos c_16]), rfl, (by simp only [mf_restoreSnapshot0, if_pos c_16]), rfl⟩
  · exact (c_5 (by decide)).elim

theorem fr_mf_restoreSnapshot0 {σ : pr_I}  {o : Nat} (hms : ∀ m ∈ ([0, 1] : List Nat), o ≠ m) : mf_restoreSnapshot0 σ o = σ o := by
  unfold mf_restoreSnapshot0
  simp only [List.mem_cons, List.not_mem_nil, or_false, forall_eq_or_imp, forall_eq] at hms
  by_cases c_16 : (σ 6 0) = 0
  · refine (congrFun (if_pos c_16) o).trans ?_
    rw [pr_up_ne (by omega)]
  · refine (congrFun (if_neg c_16) o).trans ?_
    rw [pr_row_ne (by omega), pr_up_ne (by omega)]

noncomputable def mf_saveSnapshot1_r (σ : pr_I) : Int32 := (σ 1 0)
noncomputable def mf_saveSnapshot1 (σ : pr_I) : pr_I := (pr_up (pr_row (pr_up σ 0 6 (0 : Int32)) 5 (cp_row (σ 1) (σ 5) 5384)) 6 1 (1 : Int32))
set_option maxRecDepth 100000 in
set_option maxHeartbeats 400000 in
theorem c_mf_saveSnapshot1 {g : pr_C} {l : Launch} (hl : l.stackTraces = false) {T : pr_T} {I : pr_I} {L : pr_L} {m : Nat} {σ : pr_I}  (hm : pr_Mo T m) (hI : mI σ) : pr_M g l 11 0 0 mX8_saveSnapshot [.ref m, .int (nI 1)] T (rg_put I m 16 σ) L (pr_R (some (.int (mf_saveSnapshot1_r σ))) T (rg_put I m 16 (mf_saveSnapshot1 σ)) L) pr_no := by
  refine pr_ofG (by decide) rfl hl (Nat.le_of_ble_eq_true rfl) (fun X hA hX hXn hXt => ?_)
  subst hX
  show pr_G g X mX8_saveSnapshot.2.2.1 _ 0 0 0 [.ref m, .int (nI 1)] [] T (rg_put I m 16 σ) L
  have hn5 := mI_n5 hI
  have hr4 := mI_nr4 hI
  have hl24 := mI_nl24 hI
  have hn12 := mI_nn12 hI
  refine pr_aload_n hA dX8_saveSnapshot_0 rfl ?_
  refine pr_iload_n hA dX8_saveSnapshot_1 rfl ?_
  have hv2 : mI σ := hI
  refine pr_callVi hA [.int (nI 1)] (c_ns_ok (m := m) (σ := σ) (pr_hl hA) hm hv2 (by omega)) v_X8_401 (mo_k0 hm) (by decide) rfl rfl rfl (by decide) (Nat.zero_le _) (Nat.zero_le _) rfl (Nat.le_of_ble_eq_true rfl) dX8_saveSnapshot_2 ?_
  refine pr_if_eq hA 10 dX8_saveSnapshot_5 (by decide) (fun c_5 => ?_) (fun c_5 => ?_)
  · refine pr_aload_n hA dX8_saveSnapshot_10 rfl ?_
    refine pr_getR hA f_X8_9 rfl (mo_k0 hm) (mo_f0_0 hm) dX8_saveSnapshot_11 ?_
    refine pr_aload_n hA dX8_saveSnapshot_14 rfl ?_
    refine pr_iload_n hA dX8_saveSnapshot_15 rfl ?_
    refine pr_callVa hA [.int (nI 1)] (c_m_slot1 (m := m) (σ := (pr_up σ 0 6 (0 : Int32))) (pr_hl hA) hm) v_X8_404 (mo_k0 hm) (by decide) rfl rfl rfl (by decide) (Nat.zero_le _) (Nat.zero_le _) rfl (Nat.le_of_ble_eq_true rfl) dX8_saveSnapshot_16 ?_
    refine pr_callSv hA [.ref (m + 1), .ref (m + 5)] (c_copiesE (pr_hl hA) (mo_k1 hm) (mo_k5 hm) (by omega) ((rg_row (by decide)).trans (pr_up_ne (by decide))) ((rg_row (by decide)).trans (pr_up_ne (by decide))) (rg_put_row (by decide))) s_X8_193 rfl (by decide) (Nat.zero_le _) (Nat.zero_le _) rfl (Nat.le_of_ble_eq_true rfl) dX8_saveSnapshot_19 ?_
    refine pr_aload_n hA dX8_saveSnapshot_22 rfl ?_
    refine pr_getR hA f_X8_25 rfl (mo_k0 hm) (mo_f0_5 hm) dX8_saveSnapshot_23 ?_
    refine pr_iload_n hA dX8_saveSnapshot_26 rfl ?_
    refine pr_iconst hA (1) dX8_saveSnapshot_27 (by decide) ?_
    refine pr_zastN (v' := (1 : Int32)) (I' := (rg_put I m 16 (pr_up (pr_row (pr_up σ 0 6 (0 : Int32)) 5 (cp_row (σ 1) (σ 5) 5384)) 6 1 (1 : Int32)))) hA (mo_k6 hm) (by omega) (by omega) (by decide) (rg_up (by decide)) dX8_saveSnapshot_28 ?_
    refine pr_aload_n hA dX8_saveSnapshot_29 rfl ?_
    refine pr_getR hA f_X8_9 rfl (mo_k0 hm) (mo_f0_0 hm) dX8_saveSnapshot_30 ?_
    refine pr_iconst hA (nI 0) dX8_saveSnapshot_33 (by decide) ?_
    refine pr_ialdM (v := (σ 1 0)) hA (mo_k1 hm) (by omega) (by omega) ((rg_val (by decide)).trans ((pr_upv (by decide)).trans ((pr_rwv (by decide)).trans (pr_upv (by decide))))) dX8_saveSnapshot_34 ?_
    exact pr_ireturn hA rfl rfl (Nat.zero_le _) (Nat.zero_le _) dX8_saveSnapshot_35 ⟨rfl, rfl, rfl, rfl⟩
  · exact (c_5 (by decide)).elim

theorem fr_mf_saveSnapshot1 {σ : pr_I}  {o : Nat} (hms : ∀ m ∈ ([0, 5, 6] : List Nat), o ≠ m) : mf_saveSnapshot1 σ o = σ o := by
  unfold mf_saveSnapshot1
  simp only [List.mem_cons, List.not_mem_nil, or_false, forall_eq_or_imp, forall_eq] at hms
  rw [pr_up_ne (by omega), pr_row_ne (by omega), pr_up_ne (by omega)]

noncomputable def mf_restoreSnapshot1_r (σ : pr_I) : Int32 := (if (σ 6 1) = 0 then ((-1) : Int32) else ((cp_row (σ 5) (σ 1) 5384) 0))
noncomputable def mf_restoreSnapshot1 (σ : pr_I) : pr_I := (if (σ 6 1) = 0 then (pr_up σ 0 6 (0 : Int32)) else (pr_row (pr_up σ 0 6 (0 : Int32)) 1 (cp_row (σ 5) (σ 1) 5384)))
set_option maxRecDepth 100000 in
set_option maxHeartbeats 400000 in
theorem c_mf_restoreSnapshot1 {g : pr_C} {l : Launch} (hl : l.stackTraces = false) {T : pr_T} {I : pr_I} {L : pr_L} {m : Nat} {σ : pr_I}  (hm : pr_Mo T m) (hI : mI σ) : pr_M g l 11 0 0 mX8_restoreSnapshot [.ref m, .int (nI 1)] T (rg_put I m 16 σ) L (pr_R (some (.int (mf_restoreSnapshot1_r σ))) T (rg_put I m 16 (mf_restoreSnapshot1 σ)) L) pr_no := by
  refine pr_ofG (by decide) rfl hl (Nat.le_of_ble_eq_true rfl) (fun X hA hX hXn hXt => ?_)
  subst hX
  show pr_G g X mX8_restoreSnapshot.2.2.1 _ 0 0 0 [.ref m, .int (nI 1)] [] T (rg_put I m 16 σ) L
  have hn5 := mI_n5 hI
  have hr4 := mI_nr4 hI
  have hl24 := mI_nl24 hI
  have hn12 := mI_nn12 hI
  refine pr_aload_n hA dX8_restoreSnapshot_0 rfl ?_
  refine pr_iload_n hA dX8_restoreSnapshot_1 rfl ?_
  have hv2 : mI σ := hI
  refine pr_callVi hA [.int (nI 1)] (c_ns_ok (m := m) (σ := σ) (pr_hl hA) hm hv2 (by omega)) v_X8_401 (mo_k0 hm) (by decide) rfl rfl rfl (by decide) (Nat.zero_le _) (Nat.zero_le _) rfl (Nat.le_of_ble_eq_true rfl) dX8_restoreSnapshot_2 ?_
  refine pr_if_eq hA 10 dX8_restoreSnapshot_5 (by decide) (fun c_5 => ?_) (fun c_5 => ?_)
  · refine pr_aload_n hA dX8_restoreSnapshot_10 rfl ?_
    refine pr_getR hA f_X8_25 rfl (mo_k0 hm) (mo_f0_5 hm) dX8_restoreSnapshot_11 ?_
    refine pr_iload_n hA dX8_restoreSnapshot_14 rfl ?_
    refine pr_zaldN (v := (σ 6 1)) hA (mo_k6 hm) (by omega) (by omega) ((rg_val (by decide)).trans (pr_upv (by decide))) dX8_restoreSnapshot_15 ?_
    refine pr_if_ne hA 21 dX8_restoreSnapshot_16 (by decide) (fun c_16 => ?_) (fun c_16 => ?_)
    · refine pr_aload_n hA dX8_restoreSnapshot_21 rfl ?_
      refine pr_iload_n hA dX8_restoreSnapshot_22 rfl ?_
      refine pr_callVa hA [.int (nI 1)] (c_m_slot1 (m := m) (σ := (pr_up σ 0 6 (0 : Int32))) (pr_hl hA) hm) v_X8_404 (mo_k0 hm) (by decide) rfl rfl rfl (by decide) (Nat.zero_le _) (Nat.zero_le _) rfl (Nat.le_of_ble_eq_true rfl) dX8_restoreSnapshot_23 ?_
      refine pr_aload_n hA dX8_restoreSnapshot_26 rfl ?_
      refine pr_getR hA f_X8_9 rfl (mo_k0 hm) (mo_f0_0 hm) dX8_restoreSnapshot_27 ?_
      refine pr_callSv hA [.ref (m + 5), .ref (m + 1)] (c_copiesE (pr_hl hA) (mo_k5 hm) (mo_k1 hm) (by omega) ((rg_row (by decide)).trans (pr_up_ne (by decide))) ((rg_row (by decide)).trans (pr_up_ne (by decide))) (rg_put_row (by decide))) s_X8_193 rfl (by decide) (Nat.zero_le _) (Nat.zero_le _) rfl (Nat.le_of_ble_eq_true rfl) dX8_restoreSnapshot_30 ?_
      refine pr_aload_n hA dX8_restoreSnapshot_33 rfl ?_
      refine pr_getR hA f_X8_9 rfl (mo_k0 hm) (mo_f0_0 hm) dX8_restoreSnapshot_34 ?_
      refine pr_iconst hA (nI 0) dX8_restoreSnapshot_37 (by decide) ?_
      refine pr_ialdM (v := ((cp_row (σ 5) (σ 1) 5384) 0)) hA (mo_k1 hm) (by omega) (by omega) ((rg_val (by decide)).trans pr_rwe) dX8_restoreSnapshot_38 ?_
      exact pr_ireturn hA rfl rfl (Nat.zero_le _) (Nat.zero_le _) dX8_restoreSnapshot_39 ⟨(by simp only [mf_restoreSnapshot1_r, if_neg c_16]), rfl, (by simp only [mf_restoreSnapshot1, if_neg c_16]), rfl⟩
    · refine pr_iconst hA ((-1)) dX8_restoreSnapshot_19 (by decide) ?_
      exact pr_ireturn hA rfl rfl (Nat.zero_le _) (Nat.zero_le _) dX8_restoreSnapshot_20 ⟨(by simp only [mf_restoreSnapshot1_r, if_pos c_16]), rfl, (by simp only [mf_restoreSnapshot1, if_pos c_16]), rfl⟩
  · exact (c_5 (by decide)).elim

theorem fr_mf_restoreSnapshot1 {σ : pr_I}  {o : Nat} (hms : ∀ m ∈ ([0, 1] : List Nat), o ≠ m) : mf_restoreSnapshot1 σ o = σ o := by
  unfold mf_restoreSnapshot1
  simp only [List.mem_cons, List.not_mem_nil, or_false, forall_eq_or_imp, forall_eq] at hms
  by_cases c_16 : (σ 6 1) = 0
  · refine (congrFun (if_pos c_16) o).trans ?_
    rw [pr_up_ne (by omega)]
  · refine (congrFun (if_neg c_16) o).trans ?_
    rw [pr_row_ne (by omega), pr_up_ne (by omega)]

