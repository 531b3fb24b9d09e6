theorem nI_linx {a b c n : Nat} {x : Int32} (hx : vp_in x n) (hn : n < 2 ^ 31) : nI a + nI b * x + nI c = nI (a + b * x.toNatClampNeg + c) := by
  obtain ⟨j, hj, rfl⟩ := vp_in_of hx hn
  rw [nI_clamp (by omega), nI_lin]
noncomputable def m_tof_it5 (σ : pr_I) (r : Nat) (x : Int32) : Nat → Int32
  | 0 => ((-1) : Int32)
  | k + 1 => (if (σ 1 (1384 + 8 * k + 0)) = (nI r) then (if (σ 1 (1384 + 8 * k + 1)) = x then (nI k) else (m_tof_it5 σ r x k)) else (m_tof_it5 σ r x k))
noncomputable def m_tof_r (σ : pr_I) (r : Nat) (x : Int32) : Int32 := (m_tof_it5 σ r x (mtn σ))
set_option maxRecDepth 100000 in
set_option maxHeartbeats 400000 in
theorem c_m_tof {g : pr_C} {l : Launch} (hl : l.stackTraces = false) {T : pr_T} {I : pr_I} {L : pr_L} {m : Nat} {σ : pr_I} {r : Nat} {x : Int32} (hm : pr_Mo T m) (hI : mI σ) : pr_M g l 4 0 0 mX8_ticketOf [.ref m, .int (nI r), .int x] T (rg_put I m 16 σ) L (pr_R (some (.int (m_tof_r σ r x))) T (rg_put I m 16 σ) L) pr_no := by
  refine pr_ofG (by decide) rfl hl (Nat.le_of_ble_eq_true rfl) (fun X hA hX hXn hXt => ?_)
  subst hX
  show pr_G g X mX8_ticketOf.2.2.1 _ 0 0 0 [.ref m, .int (nI r), .int x, .null, .null] [] T (rg_put I m 16 σ) L
  have hn5 := mI_n5 hI
  have hr4 := mI_nr4 hI
  have hl24 := mI_nl24 hI
  have hn12 := mI_nn12 hI
  refine pr_iconst hA ((-1)) dX8_ticketOf_0 (by decide) ?_
  refine pr_istore_n (ls' := [_, _, _, _, _]) hA dX8_ticketOf_1 (by decide) rfl ?_
  refine pr_iconst hA (nI 0) dX8_ticketOf_2 (by decide) ?_
  refine pr_istore (ls' := [_, _, _, _, _]) hA dX8_ticketOf_3 (by decide) rfl ?_
  have lp5 : ∀ (j k : Nat), (mtn σ) - k = j → k ≤ (mtn σ) → pr_G g X mX8_ticketOf.2.2.1 (pr_MQ g X (pr_R (some (.int (m_tof_r σ r x))) T (rg_put I m 16 σ) L) pr_no 0 0) 0 0 5 [.ref m, .int (nI r), .int x, .int (m_tof_it5 σ r x k), .int (nI k)] [] T (rg_put I m 16 σ) L := by
    intro j
    induction j using Nat.strongRecOn with | ind j ih5 =>
    intro k hj5 hk5
    refine pr_iload hA dX8_ticketOf_5 rfl ?_
    refine pr_aload_n hA dX8_ticketOf_7 rfl ?_
    refine pr_getR hA f_X8_9 rfl (mo_k0 hm) (mo_f0_0 hm) dX8_ticketOf_8 ?_
    refine pr_bipush hA (nI 9) dX8_ticketOf_11 (by decide) ?_
    refine pr_ialdM (v := (nI (mtn σ))) hA (mo_k1 hm) (by omega) (by omega) ((rg_val (by decide)).trans (mI_n hI)) dX8_ticketOf_13 ?_
    refine pr_icmp_ge hA 52 dX8_ticketOf_14 (by decide) (fun c_14 => ?_) (fun c_14 => ?_)
    · have n_14 : (mtn σ) ≤ k := (nI_leI (by omega) (by omega)).mp c_14
      have hex : (mtn σ) = k := by omega
      subst hex
      refine pr_iload_n hA dX8_ticketOf_52 rfl ?_
      exact pr_ireturn hA rfl rfl (Nat.zero_le _) (Nat.zero_le _) dX8_ticketOf_53 ⟨rfl, rfl, rfl, rfl⟩
    · have n_14 : ¬ (mtn σ) ≤ k := fun q => c_14 ((nI_leI (by omega) (by omega)).mpr q)
      refine pr_aload_n hA dX8_ticketOf_17 rfl ?_
      refine pr_iload hA dX8_ticketOf_18 rfl ?_
      refine pr_iconst hA (0) dX8_ticketOf_20 (by decide) ?_
      refine pr_callVi hA [.int (nI k), .int (0 : Int32)] (c_m_tick (m := m) (k := k) (c := 0) (σ := σ) (pr_hl hA) hm (by omega) (by omega)) v_X8_197 (mo_k0 hm) (by decide) rfl rfl rfl (by decide) (Nat.zero_le _) (Nat.zero_le _) rfl (Nat.le_of_ble_eq_true rfl) dX8_ticketOf_21 ?_
      refine pr_iload_n hA dX8_ticketOf_24 rfl ?_
      refine pr_join (c := (σ 1 (1384 + 8 * k + 0)) = (nI r)) (J := 45) (st := []) (if (σ 1 (1384 + 8 * k + 1)) = x then (nI k) else (m_tof_it5 σ r x k)) (m_tof_it5 σ r x k) inferInstance (fun kt kf => ?_) ?_
      · refine pr_icmp_ne hA 44 dX8_ticketOf_25 (by decide) (fun c_25 => ?_) (fun c_25 => ?_)
        · refine pr_iload_n hA dX8_ticketOf_44 rfl ?_
          exact kf c_25
        · refine pr_aload_n hA dX8_ticketOf_28 rfl ?_
          refine pr_iload hA dX8_ticketOf_29 rfl ?_
          refine pr_iconst hA (1) dX8_ticketOf_31 (by decide) ?_
          refine pr_callVi hA [.int (nI k), .int (1 : Int32)] (c_m_tick (m := m) (k := k) (c := 1) (σ := σ) (pr_hl hA) hm (by omega) (by omega)) v_X8_197 (mo_k0 hm) (by decide) rfl rfl rfl (by decide) (Nat.zero_le _) (Nat.zero_le _) rfl (Nat.le_of_ble_eq_true rfl) dX8_ticketOf_32 ?_
          refine pr_iload_n hA dX8_ticketOf_35 rfl ?_
          refine pr_join (c := (σ 1 (1384 + 8 * k + 1)) = x) (J := 45) (st := []) (nI k) (m_tof_it5 σ r x k) inferInstance (fun kt kf => ?_) ?_
          · refine pr_icmp_ne hA 44 dX8_ticketOf_36 (by decide) (fun c_36 => ?_) (fun c_36 => ?_)
            · refine pr_iload_n hA dX8_ticketOf_44 rfl ?_
              exact kf c_36
            · refine pr_iload hA dX8_ticketOf_39 rfl ?_
              refine pr_goto hA 45 dX8_ticketOf_41 (by decide) ?_
              exact kt c_36
          · exact kt c_25
      · refine pr_istore_n (ls' := [_, _, _, _, _]) hA dX8_ticketOf_45 (by decide) rfl ?_
        refine pr_iinc (ls' := [_, _, _, _, _]) hA (nI (k + 1)) dX8_ticketOf_46 (by decide) rfl (nI_inc _) rfl ?_
        refine pr_goto hA 5 dX8_ticketOf_49 (by decide) ?_
        have hb := ih5 ((mtn σ) - (k + 1)) (by omega) (k + 1) rfl (by omega)
        simp only [m_tof_it5] at hb
        exact hb
  exact (lp5 ((mtn σ) - 0) 0 rfl (by omega))

noncomputable def m_gb (σ : pr_I) (t : Nat) (z : Int32) : pr_I := (pr_up (pr_up σ 1 (1384 + 8 * t + 7) ((σ 1 (1384 + 8 * t + 7)) + z)) 1 (264 + 28 * ((σ 1 (1384 + 8 * t + 0)).toNatClampNeg) + 8) ((σ 1 (264 + 28 * ((σ 1 (1384 + 8 * t + 0)).toNatClampNeg) + 8)) + z))
set_option maxRecDepth 100000 in
set_option maxHeartbeats 400000 in
theorem c_m_gb {g : pr_C} {l : Launch} (hl : l.stackTraces = false) {T : pr_T} {I : pr_I} {L : pr_L} {m : Nat} {σ : pr_I} {t : Nat} {z : Int32} (hm : pr_Mo T m) (hI : mI σ) (ht : t < 500) : pr_M g l 2 0 0 mX8_givesBack [.ref m, .int (nI t), .int z] T (rg_put I m 16 σ) L (pr_R none T (rg_put I m 16 (m_gb σ t z)) L) pr_no := by
  refine pr_ofG (by decide) rfl hl (Nat.le_of_ble_eq_true rfl) (fun X hA hX hXn hXt => ?_)
  subst hX
  show pr_G g X mX8_givesBack.2.2.1 _ 0 0 0 [.ref m, .int (nI t), .int z, .null] [] T (rg_put I m 16 σ) L
  have hn5 := mI_n5 hI
  have hr4 := mI_nr4 hI
  have hl24 := mI_nl24 hI
  have hn12 := mI_nn12 hI
  have h0 : vp_in (σ 1 (1384 + 8 * t + 0)) 40 := (mI_tick hI (k := t) (c := 0) (by omega) (by decide) rfl)
  have h1 := vp_in_lt h0
  refine pr_aload_n hA dX8_givesBack_0 rfl ?_
  refine pr_iload_n hA dX8_givesBack_1 rfl ?_
  refine pr_iconst hA (0) dX8_givesBack_2 (by decide) ?_
  refine pr_callVi hA [.int (nI t), .int (0 : Int32)] (c_m_tick (m := m) (k := t) (c := 0) (σ := σ) (pr_hl hA) hm (by omega) (by omega)) v_X8_197 (mo_k0 hm) (by decide) rfl rfl rfl (by decide) (Nat.zero_le _) (Nat.zero_le _) rfl (Nat.le_of_ble_eq_true rfl) dX8_givesBack_3 ?_
  refine pr_istore_n (ls' := [_, _, _, _]) hA dX8_givesBack_6 (by decide) rfl ?_
  refine pr_aload_n hA dX8_givesBack_7 rfl ?_
  refine pr_iload_n hA dX8_givesBack_8 rfl ?_
  refine pr_bipush hA (7) dX8_givesBack_9 (by decide) ?_
  refine pr_aload_n hA dX8_givesBack_11 rfl ?_
  refine pr_iload_n hA dX8_givesBack_12 rfl ?_
  refine pr_bipush hA (7) dX8_givesBack_13 (by decide) ?_
  refine pr_callVi hA [.int (nI t), .int (7 : Int32)] (c_m_tick (m := m) (k := t) (c := 7) (σ := σ) (pr_hl hA) hm (by omega) (by omega)) v_X8_197 (mo_k0 hm) (by decide) rfl rfl rfl (by decide) (Nat.zero_le _) (Nat.zero_le _) rfl (Nat.le_of_ble_eq_true rfl) dX8_givesBack_15 ?_
  refine pr_iload_n hA dX8_givesBack_18 rfl ?_
  refine pr_iadd hA dX8_givesBack_19 ?_
  refine pr_callVv hA [.int (nI t), .int (7 : Int32), .int ((σ 1 (1384 + 8 * t + 7)) + z)] (c_m_putTick (m := m) (k := t) (c := 7) (σ := σ) (pr_hl hA) hm (by omega) (by omega)) v_X8_242 (mo_k0 hm) (by decide) rfl rfl rfl (by decide) (Nat.zero_le _) (Nat.zero_le _) rfl (Nat.le_of_ble_eq_true rfl) dX8_givesBack_20 ?_
  refine pr_aload_n hA dX8_givesBack_23 rfl ?_
  refine pr_iload_n hA dX8_givesBack_24 rfl ?_
  refine pr_bipush hA (8) dX8_givesBack_25 (by decide) ?_
  refine pr_aload_n hA dX8_givesBack_27 rfl ?_
  refine pr_iload_n hA dX8_givesBack_28 rfl ?_
  refine pr_bipush hA (8) dX8_givesBack_29 (by decide) ?_
  refine pr_callVi hA [.int (σ 1 (1384 + 8 * t + 0)), .int (8 : Int32)] (c_m_reqx (m := m) (x := (σ 1 (1384 + 8 * t + 0))) (c := 8) (σ := (pr_up σ 1 (1384 + 8 * t + 7) ((σ 1 (1384 + 8 * t + 7)) + z))) (pr_hl hA) hm (by assumption) (by omega)) v_X8_229 (mo_k0 hm) (by decide) rfl rfl rfl (by decide) (Nat.zero_le _) (Nat.zero_le _) rfl (Nat.le_of_ble_eq_true rfl) dX8_givesBack_31 ?_
  rw [show ((pr_up σ 1 (1384 + 8 * t + 7) ((σ 1 (1384 + 8 * t + 7)) + z)) 1 (264 + 28 * ((σ 1 (1384 + 8 * t + 0)).toNatClampNeg) + 8)) = (σ 1 (264 + 28 * ((σ 1 (1384 + 8 * t + 0)).toNatClampNeg) + 8)) from (pr_upk (by omega))]
  refine pr_iload_n hA dX8_givesBack_34 rfl ?_
  refine pr_iadd hA dX8_givesBack_35 ?_
  refine pr_callVv hA [.int (σ 1 (1384 + 8 * t + 0)), .int (8 : Int32), .int ((σ 1 (264 + 28 * ((σ 1 (1384 + 8 * t + 0)).toNatClampNeg) + 8)) + z)] (c_m_putReqx (m := m) (x := (σ 1 (1384 + 8 * t + 0))) (c := 8) (σ := (pr_up σ 1 (1384 + 8 * t + 7) ((σ 1 (1384 + 8 * t + 7)) + z))) (pr_hl hA) hm (by assumption) (by omega)) v_X8_238 (mo_k0 hm) (by decide) rfl rfl rfl (by decide) (Nat.zero_le _) (Nat.zero_le _) rfl (Nat.le_of_ble_eq_true rfl) dX8_givesBack_36 ?_
  exact pr_return hA rfl (Nat.zero_le _) (Nat.zero_le _) dX8_givesBack_39 ⟨rfl, rfl, rfl, rfl⟩

theorem fr_m_gb {σ : pr_I} {t : Nat} {z : Int32} {o : Nat} (hms : ∀ m ∈ ([1] : List Nat), o ≠ m) : m_gb σ t z o = σ o := by
  unfold m_gb
  simp only [List.mem_cons, List.not_mem_nil, or_false, forall_eq_or_imp, forall_eq] at hms
  rw [pr_up_ne (by omega), pr_up_ne (by omega)]

theorem fw_m_gb {σ : pr_I} {t : Nat} {z : Int32} {j0 : Nat} (hj : j0 < 12) (hmw : ∀ m ∈ ([] : List Nat), j0 ≠ m) : m_gb σ t z 1 j0 = σ 1 j0 := by
  unfold m_gb
  exact ((pr_upk (by omega)).trans (pr_upk (by omega)))
theorem mI_m_gb {σ : pr_I} {t : Nat} {z : Int32} (ht : t < 500) (hI : mI σ) : mI (m_gb σ t z) := by
  have h0 : vp_in (σ 1 (1384 + 8 * t + 0)) 40 := mI_tick hI (k := t) (c := 0) ht (by decide) rfl
  unfold m_gb
  exact mI.upn (mI.upn hI ((mW_tick ht (by decide)).trans rfl)) ((mW_req (vp_in_lt h0) (by decide)).trans rfl)
noncomputable def m_un_r (σ : pr_I) (r : Nat) (t : Nat) : Int32 := (((((σ 1 (1384 + 8 * t + 6))).toInt64 * (((σ 1 (264 + 28 * r + 11)) - (σ 1 0))).toInt64) / ((σ 1 (264 + 28 * r + 3))).toInt64)).toInt32
set_option maxRecDepth 100000 in
set_option maxHeartbeats 400000 in
theorem c_m_un {g : pr_C} {l : Launch} (hl : l.stackTraces = false) {T : pr_T} {I : pr_I} {L : pr_L} {m : Nat} {σ : pr_I} {r : Nat} {t : Nat} (hm : pr_Mo T m) (hI : mI σ) (hr : r < 40) (ht : t < 500) (hne : (σ 1 (264 + 28 * r + 3)).toInt64 ≠ 0) : pr_M g l 2 0 0 mX8_unused [.ref m, .int (nI r), .int (nI t)] T (rg_put I m 16 σ) L (pr_R (some (.int (m_un_r σ r t))) T (rg_put I m 16 σ) L) pr_no := by
  refine pr_ofG (by decide) rfl hl (Nat.le_of_ble_eq_true rfl) (fun X hA hX hXn hXt => ?_)
  subst hX
  show pr_G g X mX8_unused.2.2.1 _ 0 0 0 [.ref m, .int (nI r), .int (nI t)] [] T (rg_put I m 16 σ) L
  have hn5 := mI_n5 hI
  have hr4 := mI_nr4 hI
  have hl24 := mI_nl24 hI
  have hn12 := mI_nn12 hI
  refine pr_aload_n hA dX8_unused_0 rfl ?_
  refine pr_iload_n hA dX8_unused_1 rfl ?_
  refine pr_bipush hA (6) dX8_unused_2 (by decide) ?_
  refine pr_callVi hA [.int (nI t), .int (6 : Int32)] (c_m_tick (m := m) (k := t) (c := 6) (σ := σ) (pr_hl hA) hm (by omega) (by omega)) v_X8_197 (mo_k0 hm) (by decide) rfl rfl rfl (by decide) (Nat.zero_le _) (Nat.zero_le _) rfl (Nat.le_of_ble_eq_true rfl) dX8_unused_4 ?_
  refine pr_i2l hA dX8_unused_7 ?_
  refine pr_aload_n hA dX8_unused_8 rfl ?_
  refine pr_iload_n hA dX8_unused_9 rfl ?_
  refine pr_bipush hA (11) dX8_unused_10 (by decide) ?_
  refine pr_callVi hA [.int (nI r), .int (11 : Int32)] (c_m_req (m := m) (k := r) (c := 11) (σ := σ) (pr_hl hA) hm (by omega) (by omega)) v_X8_229 (mo_k0 hm) (by decide) rfl rfl rfl (by decide) (Nat.zero_le _) (Nat.zero_le _) rfl (Nat.le_of_ble_eq_true rfl) dX8_unused_12 ?_
  refine pr_aload_n hA dX8_unused_15 rfl ?_
  refine pr_getR hA f_X8_9 rfl (mo_k0 hm) (mo_f0_0 hm) dX8_unused_16 ?_
  refine pr_iconst hA (nI 0) dX8_unused_19 (by decide) ?_
  refine pr_ialdM (v := (σ 1 0)) hA (mo_k1 hm) (by omega) (by omega) (rg_val (by decide)) dX8_unused_20 ?_
  refine pr_isub hA dX8_unused_21 ?_
  refine pr_i2l hA dX8_unused_22 ?_
  refine pr_lmul hA dX8_unused_23 ?_
  refine pr_aload_n hA dX8_unused_24 rfl ?_
  refine pr_iload_n hA dX8_unused_25 rfl ?_
  refine pr_iconst hA (3) dX8_unused_26 (by decide) ?_
  refine pr_callVi hA [.int (nI r), .int (3 : Int32)] (c_m_req (m := m) (k := r) (c := 3) (σ := σ) (pr_hl hA) hm (by omega) (by omega)) v_X8_229 (mo_k0 hm) (by decide) rfl rfl rfl (by decide) (Nat.zero_le _) (Nat.zero_le _) rfl (Nat.le_of_ble_eq_true rfl) dX8_unused_27 ?_
  refine pr_i2l hA dX8_unused_30 ?_
  refine pr_ldiv hA dX8_unused_31 hne ?_
  refine pr_l2i hA dX8_unused_32 ?_
  exact pr_ireturn hA rfl rfl (Nat.zero_le _) (Nat.zero_le _) dX8_unused_33 ⟨rfl, rfl, rfl, rfl⟩

noncomputable def m_st (σ : pr_I) (r : Nat) (z : Int32) : pr_I := (pr_up (pr_up (pr_up σ 1 (264 + 28 * r + 4) z) 1 (264 + 28 * r + 6) ((-1) : Int32)) 1 (264 + 28 * r + 11) (σ 1 0))
set_option maxRecDepth 100000 in
set_option maxHeartbeats 400000 in
theorem c_m_st {g : pr_C} {l : Launch} (hl : l.stackTraces = false) {T : pr_T} {I : pr_I} {L : pr_L} {m : Nat} {σ : pr_I} {r : Nat} {z : Int32} (hm : pr_Mo T m) (hI : mI σ) (hr : r < 40) : pr_M g l 2 0 0 mX8_stops [.ref m, .int (nI r), .int z] T (rg_put I m 16 σ) L (pr_R none T (rg_put I m 16 (m_st σ r z)) L) pr_no := by
  refine pr_ofG (by decide) rfl hl (Nat.le_of_ble_eq_true rfl) (fun X hA hX hXn hXt => ?_)
  subst hX
  show pr_G g X mX8_stops.2.2.1 _ 0 0 0 [.ref m, .int (nI r), .int z] [] T (rg_put I m 16 σ) L
  have hn5 := mI_n5 hI
  have hr4 := mI_nr4 hI
  have hl24 := mI_nl24 hI
  have hn12 := mI_nn12 hI
  refine pr_aload_n hA dX8_stops_0 rfl ?_
  refine pr_iload_n hA dX8_stops_1 rfl ?_
  refine pr_iconst hA (4) dX8_stops_2 (by decide) ?_
  refine pr_iload_n hA dX8_stops_3 rfl ?_
  refine pr_callVv hA [.int (nI r), .int (4 : Int32), .int z] (c_m_putReq (m := m) (k := r) (c := 4) (σ := σ) (pr_hl hA) hm (by omega) (by omega)) v_X8_238 (mo_k0 hm) (by decide) rfl rfl rfl (by decide) (Nat.zero_le _) (Nat.zero_le _) rfl (Nat.le_of_ble_eq_true rfl) dX8_stops_4 ?_
  refine pr_aload_n hA dX8_stops_7 rfl ?_
  refine pr_iload_n hA dX8_stops_8 rfl ?_
  refine pr_bipush hA (6) dX8_stops_9 (by decide) ?_
  refine pr_iconst hA ((-1)) dX8_stops_11 (by decide) ?_
  refine pr_callVv hA [.int (nI r), .int (6 : Int32), .int ((-1) : Int32)] (c_m_putReq (m := m) (k := r) (c := 6) (σ := (pr_up σ 1 (264 + 28 * r + 4) z)) (pr_hl hA) hm (by omega) (by omega)) v_X8_238 (mo_k0 hm) (by decide) rfl rfl rfl (by decide) (Nat.zero_le _) (Nat.zero_le _) rfl (Nat.le_of_ble_eq_true rfl) dX8_stops_12 ?_
  refine pr_aload_n hA dX8_stops_15 rfl ?_
  refine pr_iload_n hA dX8_stops_16 rfl ?_
  refine pr_bipush hA (11) dX8_stops_17 (by decide) ?_
  refine pr_aload_n hA dX8_stops_19 rfl ?_
  refine pr_getR hA f_X8_9 rfl (mo_k0 hm) (mo_f0_0 hm) dX8_stops_20 ?_
  refine pr_iconst hA (nI 0) dX8_stops_23 (by decide) ?_
  refine pr_ialdM (v := (σ 1 0)) hA (mo_k1 hm) (by omega) (by omega) ((rg_val (by decide)).trans ((pr_upk (by omega)).trans (pr_upk (by omega)))) dX8_stops_24 ?_
  refine pr_callVv hA [.int (nI r), .int (11 : Int32), .int (σ 1 0)] (c_m_putReq (m := m) (k := r) (c := 11) (σ := (pr_up (pr_up σ 1 (264 + 28 * r + 4) z) 1 (264 + 28 * r + 6) ((-1) : Int32))) (pr_hl hA) hm (by omega) (by omega)) v_X8_238 (mo_k0 hm) (by decide) rfl rfl rfl (by decide) (Nat.zero_le _) (Nat.zero_le _) rfl (Nat.le_of_ble_eq_true rfl) dX8_stops_25 ?_
  exact pr_return hA rfl (Nat.zero_le _) (Nat.zero_le _) dX8_stops_28 ⟨rfl, rfl, rfl, rfl⟩

theorem fr_m_st {σ : pr_I} {r : Nat} {z : Int32} {o : Nat} (hms : ∀ m ∈ ([1] : List Nat), o ≠ m) : m_st σ r z o = σ o := by
  unfold m_st
  simp only [List.mem_cons, List.not_mem_nil, or_false, forall_eq_or_imp, forall_eq] at hms
  rw [pr_up_ne (by omega), pr_up_ne (by omega), pr_up_ne (by omega)]

theorem fw_m_st {σ : pr_I} {r : Nat} {z : Int32} {j0 : Nat} (hj : j0 < 12) (hmw : ∀ m ∈ ([] : List Nat), j0 ≠ m) : m_st σ r z 1 j0 = σ 1 j0 := by
  unfold m_st
  exact ((pr_upk (by omega)).trans ((pr_upk (by omega)).trans (pr_upk (by omega))))
noncomputable def m_go (σ : pr_I) (r : Nat) (z : Int32) (x : Int32) : pr_I := (pr_up (pr_up σ 1 (264 + 28 * r + 14) z) 1 (264 + 28 * r + 6) ((σ 1 0) + (σ 1 (96 + 7 * x.toNatClampNeg + 4))))
set_option maxRecDepth 100000 in
set_option maxHeartbeats 400000 in
theorem c_m_go {g : pr_C} {l : Launch} (hl : l.stackTraces = false) {T : pr_T} {I : pr_I} {L : pr_L} {m : Nat} {σ : pr_I} {r : Nat} {z : Int32} {x : Int32} (hm : pr_Mo T m) (hI : mI σ) (hr : r < 40) (hx : vp_in x 24) : pr_M g l 2 0 0 mX8_goesOver [.ref m, .int (nI r), .int z, .int x] T (rg_put I m 16 σ) L (pr_R none T (rg_put I m 16 (m_go σ r z x)) L) pr_no := by
  refine pr_ofG (by decide) rfl hl (Nat.le_of_ble_eq_true rfl) (fun X hA hX hXn hXt => ?_)
  subst hX
  show pr_G g X mX8_goesOver.2.2.1 _ 0 0 0 [.ref m, .int (nI r), .int z, .int x] [] T (rg_put I m 16 σ) L
  have hn5 := mI_n5 hI
  have hr4 := mI_nr4 hI
  have hl24 := mI_nl24 hI
  have hn12 := mI_nn12 hI
  refine pr_aload_n hA dX8_goesOver_0 rfl ?_
  refine pr_iload_n hA dX8_goesOver_1 rfl ?_
  refine pr_bipush hA (14) dX8_goesOver_2 (by decide) ?_
  refine pr_iload_n hA dX8_goesOver_4 rfl ?_
  refine pr_callVv hA [.int (nI r), .int (14 : Int32), .int z] (c_m_putReq (m := m) (k := r) (c := 14) (σ := σ) (pr_hl hA) hm (by omega) (by omega)) v_X8_238 (mo_k0 hm) (by decide) rfl rfl rfl (by decide) (Nat.zero_le _) (Nat.zero_le _) rfl (Nat.le_of_ble_eq_true rfl) dX8_goesOver_5 ?_
  refine pr_aload_n hA dX8_goesOver_8 rfl ?_
  refine pr_iload_n hA dX8_goesOver_9 rfl ?_
  refine pr_bipush hA (6) dX8_goesOver_10 (by decide) ?_
  refine pr_aload_n hA dX8_goesOver_12 rfl ?_
  refine pr_getR hA f_X8_9 rfl (mo_k0 hm) (mo_f0_0 hm) dX8_goesOver_13 ?_
  refine pr_iconst hA (nI 0) dX8_goesOver_16 (by decide) ?_
  refine pr_ialdM (v := (σ 1 0)) hA (mo_k1 hm) (by omega) (by omega) ((rg_val (by decide)).trans (pr_upk (by omega))) dX8_goesOver_17 ?_
  refine pr_aload_n hA dX8_goesOver_18 rfl ?_
  refine pr_iload_n hA dX8_goesOver_19 rfl ?_
  refine pr_iconst hA (4) dX8_goesOver_20 (by decide) ?_
  refine pr_callVi hA [.int x, .int (4 : Int32)] (c_m_linkx (m := m) (x := x) (c := 4) (σ := (pr_up σ 1 (264 + 28 * r + 14) z)) (pr_hl hA) hm (by assumption) (by omega)) v_X8_204 (mo_k0 hm) (by decide) rfl rfl rfl (by decide) (Nat.zero_le _) (Nat.zero_le _) rfl (Nat.le_of_ble_eq_true rfl) dX8_goesOver_21 ?_
  rw [show ((pr_up σ 1 (264 + 28 * r + 14) z) 1 (96 + 7 * x.toNatClampNeg + 4)) = (σ 1 (96 + 7 * x.toNatClampNeg + 4)) from (pr_upk (by omega))]
  refine pr_iadd hA dX8_goesOver_24 ?_
  refine pr_callVv hA [.int (nI r), .int (6 : Int32), .int ((σ 1 0) + (σ 1 (96 + 7 * x.toNatClampNeg + 4)))] (c_m_putReq (m := m) (k := r) (c := 6) (σ := (pr_up σ 1 (264 + 28 * r + 14) z)) (pr_hl hA) hm (by omega) (by omega)) v_X8_238 (mo_k0 hm) (by decide) rfl rfl rfl (by decide) (Nat.zero_le _) (Nat.zero_le _) rfl (Nat.le_of_ble_eq_true rfl) dX8_goesOver_25 ?_
  exact pr_return hA rfl (Nat.zero_le _) (Nat.zero_le _) dX8_goesOver_28 ⟨rfl, rfl, rfl, rfl⟩

theorem fr_m_go {σ : pr_I} {r : Nat} {z : Int32} {x : Int32} {o : Nat} (hms : ∀ m ∈ ([1] : List Nat), o ≠ m) : m_go σ r z x o = σ o := by
  unfold m_go
  simp only [List.mem_cons, List.not_mem_nil, or_false, forall_eq_or_imp, forall_eq] at hms
  rw [pr_up_ne (by omega), pr_up_ne (by omega)]

theorem fw_m_go {σ : pr_I} {r : Nat} {z : Int32} {x : Int32} {j0 : Nat} (hj : j0 < 12) (hmw : ∀ m ∈ ([] : List Nat), j0 ≠ m) : m_go σ r z x 1 j0 = σ 1 j0 := by
  unfold m_go
  exact ((pr_upk (by omega)).trans (pr_upk (by omega)))
noncomputable def m_exp (σ : pr_I) (t : Nat) : pr_I := (m_gb (pr_up σ 1 (1384 + 8 * t + 5) (2 : Int32)) t (((σ 1 (1384 + 8 * t + 6)) * (σ 1 4)) / (100 : Int32)))
set_option maxRecDepth 100000 in
set_option maxHeartbeats 400000 in
theorem c_m_exp {g : pr_C} {l : Launch} (hl : l.stackTraces = false) {T : pr_T} {I : pr_I} {L : pr_L} {m : Nat} {σ : pr_I} {t : Nat} (hm : pr_Mo T m) (hI : mI σ) (ht : t < 500) : pr_M g l 4 0 0 mX8_expires [.ref m, .int (nI t)] T (rg_put I m 16 σ) L (pr_R none T (rg_put I m 16 (m_exp σ t)) L) pr_no := by
  refine pr_ofG (by decide) rfl hl (Nat.le_of_ble_eq_true rfl) (fun X hA hX hXn hXt => ?_)
  subst hX
  show pr_G g X mX8_expires.2.2.1 _ 0 0 0 [.ref m, .int (nI t)] [] T (rg_put I m 16 σ) L
  have hn5 := mI_n5 hI
  have hr4 := mI_nr4 hI
  have hl24 := mI_nl24 hI
  have hn12 := mI_nn12 hI
  refine pr_aload_n hA dX8_expires_0 rfl ?_
  refine pr_iload_n hA dX8_expires_1 rfl ?_
  refine pr_iconst hA (5) dX8_expires_2 (by decide) ?_
  refine pr_iconst hA (2) dX8_expires_3 (by decide) ?_
  refine pr_callVv hA [.int (nI t), .int (5 : Int32), .int (2 : Int32)] (c_m_putTick (m := m) (k := t) (c := 5) (σ := σ) (pr_hl hA) hm (by omega) (by omega)) v_X8_242 (mo_k0 hm) (by decide) rfl rfl rfl (by decide) (Nat.zero_le _) (Nat.zero_le _) rfl (Nat.le_of_ble_eq_true rfl) dX8_expires_4 ?_
  refine pr_aload_n hA dX8_expires_7 rfl ?_
  refine pr_iload_n hA dX8_expires_8 rfl ?_
  refine pr_aload_n hA dX8_expires_9 rfl ?_
  refine pr_iload_n hA dX8_expires_10 rfl ?_
  refine pr_bipush hA (6) dX8_expires_11 (by decide) ?_
  refine pr_callVi hA [.int (nI t), .int (6 : Int32)] (c_m_tick (m := m) (k := t) (c := 6) (σ := (pr_up σ 1 (1384 + 8 * t + 5) (2 : Int32))) (pr_hl hA) hm (by omega) (by omega)) v_X8_197 (mo_k0 hm) (by decide) rfl rfl rfl (by decide) (Nat.zero_le _) (Nat.zero_le _) rfl (Nat.le_of_ble_eq_true rfl) dX8_expires_13 ?_
  rw [show ((pr_up σ 1 (1384 + 8 * t + 5) (2 : Int32)) 1 (1384 + 8 * t + 6)) = (σ 1 (1384 + 8 * t + 6)) from (pr_upk (by omega))]
  refine pr_aload_n hA dX8_expires_16 rfl ?_
  refine pr_getR hA f_X8_9 rfl (mo_k0 hm) (mo_f0_0 hm) dX8_expires_17 ?_
  refine pr_iconst hA (nI 4) dX8_expires_20 (by decide) ?_
  refine pr_ialdM (v := (σ 1 4)) hA (mo_k1 hm) (by omega) (by omega) ((rg_val (by decide)).trans (pr_upk (by omega))) dX8_expires_21 ?_
  refine pr_imul hA dX8_expires_22 ?_
  refine pr_bipush hA (100) dX8_expires_23 (by decide) ?_
  refine pr_idiv hA dX8_expires_25 (by decide) ?_
  have hv26 : mI (pr_up σ 1 (1384 + 8 * t + 5) (2 : Int32)) := (mI.upn hI ((mW_tick (by omega) (by decide)).trans rfl))
  refine pr_callVv hA [.int (nI t), .int (((σ 1 (1384 + 8 * t + 6)) * (σ 1 4)) / (100 : Int32))] (c_m_gb (m := m) (σ := (pr_up σ 1 (1384 + 8 * t + 5) (2 : Int32))) (t := t) (z := (((σ 1 (1384 + 8 * t + 6)) * (σ 1 4)) / (100 : Int32))) (pr_hl hA) hm hv26 (by first | omega | assumption)) v_X8_257 (mo_k0 hm) (by decide) rfl rfl rfl (by decide) (Nat.zero_le _) (Nat.zero_le _) rfl (Nat.le_of_ble_eq_true rfl) dX8_expires_26 ?_
  exact pr_return hA rfl (Nat.zero_le _) (Nat.zero_le _) dX8_expires_29 ⟨rfl, rfl, rfl, rfl⟩

theorem fr_m_exp {σ : pr_I} {t : Nat} {o : Nat} (hms : ∀ m ∈ ([1] : List Nat), o ≠ m) : m_exp σ t o = σ o := by
  unfold m_exp
  simp only [List.mem_cons, List.not_mem_nil, or_false, forall_eq_or_imp, forall_eq] at hms
  rw [fr_m_gb (by simp only [List.mem_cons, List.not_mem_nil, or_false, forall_eq_or_imp, forall_eq]; omega), pr_up_ne (by omega)]

theorem fw_m_exp {σ : pr_I} {t : Nat} {j0 : Nat} (hj : j0 < 12) (hmw : ∀ m ∈ ([] : List Nat), j0 ≠ m) : m_exp σ t 1 j0 = σ 1 j0 := by
  unfold m_exp
  exact ((fw_m_gb hj (fun m hm => by cases hm)).trans (pr_upk (by omega)))
noncomputable def m_has1_rl2 (σ : pr_I) (r : Nat) (x : Int32) : Nat → Nat → Int32
  | 0, _ => 0
  | j + 1, k => (if (nI (mtn σ)) ≤ (nI k) then (0 : Int32) else (if (σ 1 (1384 + 8 * k + 0)) = (nI r) then (if (σ 1 (1384 + 8 * k + 1)) = x then (if (m_kept_r σ k) = 0 then (m_has1_rl2 σ r x j (k + 1)) else (1 : Int32)) else (m_has1_rl2 σ r x j (k + 1))) else (m_has1_rl2 σ r x j (k + 1))))
noncomputable def m_has1_r (σ : pr_I) (r : Nat) (x : Int32) : Int32 := (m_has1_rl2 σ r x ((mtn σ) + 1) 0)
set_option maxRecDepth 100000 in
set_option maxHeartbeats 400000 in
theorem c_m_has1 {g : pr_C} {l : Launch} (hl : l.stackTraces = false) {T : pr_T} {I : pr_I} {L : pr_L} {m : Nat} {σ : pr_I} {r : Nat} {x : Int32} (hm : pr_Mo T m) (hI : mI σ) : pr_M g l 4 0 0 mX8_hasTicketOn [.ref m, .int (nI r), .int x] T (rg_put I m 16 σ) L (pr_R (some (.int (m_has1_r σ r x))) T (rg_put I m 16 σ) L) pr_no := by
  refine pr_ofG (by decide) rfl hl (Nat.le_of_ble_eq_true rfl) (fun X hA hX hXn hXt => ?_)
  subst hX
  show pr_G g X mX8_hasTicketOn.2.2.1 _ 0 0 0 [.ref m, .int (nI r), .int x, .null] [] T (rg_put I m 16 σ) L
  have hn5 := mI_n5 hI
  have hr4 := mI_nr4 hI
  have hl24 := mI_nl24 hI
  have hn12 := mI_nn12 hI
  refine pr_iconst hA (nI 0) dX8_hasTicketOn_0 (by decide) ?_
  refine pr_istore_n (ls' := [_, _, _, _]) hA dX8_hasTicketOn_1 (by decide) rfl ?_
  obtain ⟨R, hR0⟩ : ∃ R, m_has1_rl2 σ r x ((mtn σ) + 1) 0 = R := ⟨_, rfl⟩
  have hf : m_has1_r σ r x = R := by simp only [m_has1_r, hR0]
  have lp2 : ∀ (j k : Nat), (mtn σ) + 1 - k = j → k ≤ (mtn σ) → m_has1_rl2 σ r x j k = R → pr_G g X mX8_hasTicketOn.2.2.1 (pr_MQ g X (pr_R (some (.int (m_has1_r σ r x))) T (rg_put I m 16 σ) L) pr_no 0 0) 0 0 2 [.ref m, .int (nI r), .int x, .int (nI k)] [] T (rg_put I m 16 σ) L := by
    intro j
    induction j with
    | zero => intro k  hj hk hR; omega
    | succ j ih =>
      intro k  hj hk hR
      refine pr_iload_n hA dX8_hasTicketOn_2 rfl ?_
      refine pr_aload_n hA dX8_hasTicketOn_3 rfl ?_
      refine pr_getR hA f_X8_9 rfl (mo_k0 hm) (mo_f0_0 hm) dX8_hasTicketOn_4 ?_
      refine pr_bipush hA (nI 9) dX8_hasTicketOn_7 (by decide) ?_
      refine pr_ialdM (v := (nI (mtn σ))) hA (mo_k1 hm) (by omega) (by omega) ((rg_val (by decide)).trans (mI_n hI)) dX8_hasTicketOn_9 ?_
      refine pr_icmp_ge hA 49 dX8_hasTicketOn_10 (by decide) (fun c_10 => ?_) (fun c_10 => ?_)
      · have n_10 : (mtn σ) ≤ k := (nI_leI (by omega) (by omega)).mp c_10
        refine pr_iconst hA (0) dX8_hasTicketOn_49 (by decide) ?_
        simp only [m_has1_rl2, if_pos c_10] at hR
        exact pr_ireturn hA rfl (pr_nb (by repeat (first | exact Or.inl rfl | exact Or.inr rfl | refine nb_ite ?_ ?_))) (Nat.zero_le _) (Nat.zero_le _) dX8_hasTicketOn_50 ⟨(by rw [hf, ← hR]), rfl, rfl, rfl⟩
      · have n_10 : ¬ (mtn σ) ≤ k := fun q => c_10 ((nI_leI (by omega) (by omega)).mpr q)
        refine pr_aload_n hA dX8_hasTicketOn_13 rfl ?_
        refine pr_iload_n hA dX8_hasTicketOn_14 rfl ?_
        refine pr_iconst hA (0) dX8_hasTicketOn_15 (by decide) ?_
        refine pr_callVi hA [.int (nI k), .int (0 : Int32)] (c_m_tick (m := m) (k := k) (c := 0) (σ := σ) (pr_hl hA) hm (by omega) (by omega)) v_X8_197 (mo_k0 hm) (by decide) rfl rfl rfl (by decide) (Nat.zero_le _) (Nat.zero_le _) rfl (Nat.le_of_ble_eq_true rfl) dX8_hasTicketOn_16 ?_
        refine pr_iload_n hA dX8_hasTicketOn_19 rfl ?_
        refine pr_icmp_ne hA 43 dX8_hasTicketOn_20 (by decide) (fun c_20 => ?_) (fun c_20 => ?_)
        · refine pr_iinc (ls' := [_, _, _, _]) hA (nI (k + 1)) dX8_hasTicketOn_43 (by decide) rfl (nI_inc _) rfl ?_
          refine pr_goto hA 2 dX8_hasTicketOn_46 (by decide) ?_
          simp only [m_has1_rl2, if_neg c_10, if_neg c_20] at hR
          exact (ih (k + 1) (by omega) (by omega) hR)
        · refine pr_aload_n hA dX8_hasTicketOn_23 rfl ?_
          refine pr_iload_n hA dX8_hasTicketOn_24 rfl ?_
          refine pr_iconst hA (1) dX8_hasTicketOn_25 (by decide) ?_
          refine pr_callVi hA [.int (nI k), .int (1 : Int32)] (c_m_tick (m := m) (k := k) (c := 1) (σ := σ) (pr_hl hA) hm (by omega) (by omega)) v_X8_197 (mo_k0 hm) (by decide) rfl rfl rfl (by decide) (Nat.zero_le _) (Nat.zero_le _) rfl (Nat.le_of_ble_eq_true rfl) dX8_hasTicketOn_26 ?_
          refine pr_iload_n hA dX8_hasTicketOn_29 rfl ?_
          refine pr_icmp_ne hA 43 dX8_hasTicketOn_30 (by decide) (fun c_30 => ?_) (fun c_30 => ?_)
          · refine pr_iinc (ls' := [_, _, _, _]) hA (nI (k + 1)) dX8_hasTicketOn_43 (by decide) rfl (nI_inc _) rfl ?_
            refine pr_goto hA 2 dX8_hasTicketOn_46 (by decide) ?_
            simp only [m_has1_rl2, if_neg c_10, if_pos c_20, if_neg c_30] at hR
            exact (ih (k + 1) (by omega) (by omega) hR)
          · refine pr_aload_n hA dX8_hasTicketOn_33 rfl ?_
            refine pr_iload_n hA dX8_hasTicketOn_34 rfl ?_
            refine pr_callVi hA [.int (nI k)] (c_m_kept (m := m) (σ := σ) (t := k) (pr_hl hA) hm (by omega)) v_X8_201 (mo_k0 hm) (by decide) rfl rfl rfl (by decide) (Nat.zero_le _) (Nat.zero_le _) rfl (Nat.le_of_ble_eq_true rfl) dX8_hasTicketOn_35 ?_
            refine pr_if_eq hA 43 dX8_hasTicketOn_38 (by decide) (fun c_38 => ?_) (fun c_38 => ?_)
            · refine pr_iinc (ls' := [_, _, _, _]) hA (nI (k + 1)) dX8_hasTicketOn_43 (by decide) rfl (nI_inc _) rfl ?_
              refine pr_goto hA 2 dX8_hasTicketOn_46 (by decide) ?_
              simp only [m_has1_rl2, if_neg c_10, if_pos c_20, if_pos c_30, if_pos c_38] at hR
              exact (ih (k + 1) (by omega) (by omega) hR)
            · refine pr_iconst hA (1) dX8_hasTicketOn_41 (by decide) ?_
              simp only [m_has1_rl2, if_neg c_10, if_pos c_20, if_pos c_30, if_neg c_38] at hR
              exact pr_ireturn hA rfl (pr_nb (by repeat (first | exact Or.inl rfl | exact Or.inr rfl | refine nb_ite ?_ ?_))) (Nat.zero_le _) (Nat.zero_le _) dX8_hasTicketOn_42 ⟨(by rw [hf, ← hR]), rfl, rfl, rfl⟩
  exact (lp2 ((mtn σ) + 1) 0 rfl (Nat.zero_le _) hR0)

noncomputable def m_end_it2 (σ : pr_I) (r : Nat) : Nat → pr_I
  | 0 => σ
  | k + 1 => (if ((m_end_it2 σ r k) 1 (1384 + 8 * k + 0)) = (nI r) then (if (m_kept_r (m_end_it2 σ r k) k) = 0 then (m_end_it2 σ r k) else (pr_up (m_end_it2 σ r k) 1 (1384 + 8 * k + 5) (3 : Int32))) else (m_end_it2 σ r k))
theorem fr_m_end_it2 {σ : pr_I} {r : Nat} {o : Nat} (hms : ∀ m ∈ ([1] : List Nat), o ≠ m) : ∀ {k : Nat}, (m_end_it2 σ r k) o = σ o := by
  simp only [List.mem_cons, List.not_mem_nil, or_false, forall_eq_or_imp, forall_eq] at hms
  intro k
  induction k with
  | zero =>
    show σ o = σ o
    rfl
  | succ k ih =>
    by_cases c_20 : ((m_end_it2 σ r k) 1 (1384 + 8 * k + 0)) = (nI r)
    · refine (congrFun (congrArg (fun z : pr_I => z) (if_pos c_20)) o).trans ?_
      by_cases c_28 : (m_kept_r (m_end_it2 σ r k) k) = 0
      · refine (congrFun (congrArg (fun z : pr_I => z) (if_pos c_28)) o).trans ?_
        show (m_end_it2 σ r k) o = σ o
        rw [ih]
      · refine (congrFun (congrArg (fun z : pr_I => z) (if_neg c_28)) o).trans ?_
        show (pr_up (m_end_it2 σ r k) 1 (1384 + 8 * k + 5) (3 : Int32)) o = σ o
        rw [pr_up_ne (by omega), ih]
    · refine (congrFun (congrArg (fun z : pr_I => z) (if_neg c_20)) o).trans ?_
      show (m_end_it2 σ r k) o = σ o
      rw [ih]
theorem fw_m_end_it2 {σ : pr_I} {r : Nat} {j0 : Nat} (hj : j0 < 12) (hmw : ∀ m ∈ ([] : List Nat), j0 ≠ m) : ∀ {k : Nat}, (m_end_it2 σ r k) 1 j0 = σ 1 j0 := by
  intro k
  induction k with
  | zero => rfl
  | succ k ih =>
    by_cases c_20 : ((m_end_it2 σ r k) 1 (1384 + 8 * k + 0)) = (nI r)
    · refine (congrArg (fun z : pr_I => z 1 j0) (if_pos c_20)).trans ?_
      by_cases c_28 : (m_kept_r (m_end_it2 σ r k) k) = 0
      · refine (congrArg (fun z : pr_I => z 1 j0) (if_pos c_28)).trans ?_
        show (m_end_it2 σ r k) 1 j0 = σ 1 j0
        exact ih
      · refine (congrArg (fun z : pr_I => z 1 j0) (if_neg c_28)).trans ?_
        show (pr_up (m_end_it2 σ r k) 1 (1384 + 8 * k + 5) (3 : Int32)) 1 j0 = σ 1 j0
        exact ((pr_upk (by omega)).trans ih)
    · refine (congrArg (fun z : pr_I => z 1 j0) (if_neg c_20)).trans ?_
      show (m_end_it2 σ r k) 1 j0 = σ 1 j0
      exact ih

noncomputable def m_end (σ : pr_I) (r : Nat) : pr_I := (pr_up (m_end_it2 σ r (mtn σ)) 1 (264 + 28 * r + 4) (3 : Int32))
set_option maxRecDepth 100000 in
set_option maxHeartbeats 400000 in
theorem c_m_end {g : pr_C} {l : Launch} (hl : l.stackTraces = false) {T : pr_T} {I : pr_I} {L : pr_L} {m : Nat} {σ : pr_I} {r : Nat} (hm : pr_Mo T m) (hI : mI σ) (hr : r < 40) : pr_M g l 4 0 0 mX8_ends [.ref m, .int (nI r)] T (rg_put I m 16 σ) L (pr_R none T (rg_put I m 16 (m_end σ r)) L) pr_no := by
  refine pr_ofG (by decide) rfl hl (Nat.le_of_ble_eq_true rfl) (fun X hA hX hXn hXt => ?_)
  subst hX
  show pr_G g X mX8_ends.2.2.1 _ 0 0 0 [.ref m, .int (nI r), .null] [] T (rg_put I m 16 σ) L
  have hn5 := mI_n5 hI
  have hr4 := mI_nr4 hI
  have hl24 := mI_nl24 hI
  have hn12 := mI_nn12 hI
  refine pr_iconst hA (nI 0) dX8_ends_0 (by decide) ?_
  refine pr_istore_n (ls' := [_, _, _]) hA dX8_ends_1 (by decide) rfl ?_
  have lp2 : ∀ (j k : Nat), (mtn σ) - k = j → k ≤ (mtn σ) → pr_G g X mX8_ends.2.2.1 (pr_MQ g X (pr_R none T (rg_put I m 16 (m_end σ r)) L) pr_no 0 0) 0 0 2 [.ref m, .int (nI r), .int (nI k)] [] T (rg_put I m 16 (m_end_it2 σ r k)) L := by
    intro j
    induction j using Nat.strongRecOn with | ind j ih2 =>
    intro k hj2 hk2
    refine pr_iload_n hA dX8_ends_2 rfl ?_
    refine pr_aload_n hA dX8_ends_3 rfl ?_
    refine pr_getR hA f_X8_9 rfl (mo_k0 hm) (mo_f0_0 hm) dX8_ends_4 ?_
    refine pr_bipush hA (nI 9) dX8_ends_7 (by decide) ?_
    refine pr_ialdM (v := (nI (mtn σ))) hA (mo_k1 hm) (by omega) (by omega) ((rg_val (by decide)).trans ((fw_m_end_it2 (by decide) (by decide)).trans (mI_n hI))) dX8_ends_9 ?_
    refine pr_icmp_ge hA 44 dX8_ends_10 (by decide) (fun c_10 => ?_) (fun c_10 => ?_)
    · have n_10 : (mtn σ) ≤ k := (nI_leI (by omega) (by omega)).mp c_10
      have hex : (mtn σ) = k := by omega
      subst hex
      refine pr_aload_n hA dX8_ends_44 rfl ?_
      refine pr_iload_n hA dX8_ends_45 rfl ?_
      refine pr_iconst hA (4) dX8_ends_46 (by decide) ?_
      refine pr_iconst hA (3) dX8_ends_47 (by decide) ?_
      refine pr_callVv hA [.int (nI r), .int (4 : Int32), .int (3 : Int32)] (c_m_putReq (m := m) (k := r) (c := 4) (σ := (m_end_it2 σ r (mtn σ))) (pr_hl hA) hm (by omega) (by omega)) v_X8_238 (mo_k0 hm) (by decide) rfl rfl rfl (by decide) (Nat.zero_le _) (Nat.zero_le _) rfl (Nat.le_of_ble_eq_true rfl) dX8_ends_48 ?_
      exact pr_return hA rfl (Nat.zero_le _) (Nat.zero_le _) dX8_ends_51 ⟨rfl, rfl, rfl, rfl⟩
    · have n_10 : ¬ (mtn σ) ≤ k := fun q => c_10 ((nI_leI (by omega) (by omega)).mpr q)
      refine pr_aload_n hA dX8_ends_13 rfl ?_
      refine pr_iload_n hA dX8_ends_14 rfl ?_
      refine pr_iconst hA (0) dX8_ends_15 (by decide) ?_
      refine pr_callVi hA [.int (nI k), .int (0 : Int32)] (c_m_tick (m := m) (k := k) (c := 0) (σ := (m_end_it2 σ r k)) (pr_hl hA) hm (by omega) (by omega)) v_X8_197 (mo_k0 hm) (by decide) rfl rfl rfl (by decide) (Nat.zero_le _) (Nat.zero_le _) rfl (Nat.le_of_ble_eq_true rfl) dX8_ends_16 ?_
      refine pr_iload_n hA dX8_ends_19 rfl ?_
      refine pr_icmp_ne hA 38 dX8_ends_20 (by decide) (fun c_20 => ?_) (fun c_20 => ?_)
      · refine pr_iinc (ls' := [_, _, _]) hA (nI (k + 1)) dX8_ends_38 (by decide) rfl (nI_inc _) rfl ?_
        refine pr_goto hA 2 dX8_ends_41 (by decide) ?_
        have hb := ih2 ((mtn σ) - (k + 1)) (by omega) (k + 1) rfl (by omega)
        simp only [m_end_it2, if_neg c_20] at hb
        exact hb
      · refine pr_aload_n hA dX8_ends_23 rfl ?_
        refine pr_iload_n hA dX8_ends_24 rfl ?_
        refine pr_callVi hA [.int (nI k)] (c_m_kept (m := m) (σ := (m_end_it2 σ r k)) (t := k) (pr_hl hA) hm (by omega)) v_X8_201 (mo_k0 hm) (by decide) rfl rfl rfl (by decide) (Nat.zero_le _) (Nat.zero_le _) rfl (Nat.le_of_ble_eq_true rfl) dX8_ends_25 ?_
        refine pr_if_eq hA 38 dX8_ends_28 (by decide) (fun c_28 => ?_) (fun c_28 => ?_)
        · refine pr_iinc (ls' := [_, _, _]) hA (nI (k + 1)) dX8_ends_38 (by decide) rfl (nI_inc _) rfl ?_
          refine pr_goto hA 2 dX8_ends_41 (by decide) ?_
          have hb := ih2 ((mtn σ) - (k + 1)) (by omega) (k + 1) rfl (by omega)
          simp only [m_end_it2, if_pos c_20, if_pos c_28] at hb
          exact hb
        · refine pr_aload_n hA dX8_ends_31 rfl ?_
          refine pr_iload_n hA dX8_ends_32 rfl ?_
          refine pr_iconst hA (5) dX8_ends_33 (by decide) ?_
          refine pr_iconst hA (3) dX8_ends_34 (by decide) ?_
          refine pr_callVv hA [.int (nI k), .int (5 : Int32), .int (3 : Int32)] (c_m_putTick (m := m) (k := k) (c := 5) (σ := (m_end_it2 σ r k)) (pr_hl hA) hm (by omega) (by omega)) v_X8_242 (mo_k0 hm) (by decide) rfl rfl rfl (by decide) (Nat.zero_le _) (Nat.zero_le _) rfl (Nat.le_of_ble_eq_true rfl) dX8_ends_35 ?_
          refine pr_iinc (ls' := [_, _, _]) hA (nI (k + 1)) dX8_ends_38 (by decide) rfl (nI_inc _) rfl ?_
          refine pr_goto hA 2 dX8_ends_41 (by decide) ?_
          have hb := ih2 ((mtn σ) - (k + 1)) (by omega) (k + 1) rfl (by omega)
          simp only [m_end_it2, if_pos c_20, if_neg c_28] at hb
          exact hb
  exact (lp2 ((mtn σ) - 0) 0 rfl (by omega))

theorem fr_m_end {σ : pr_I} {r : Nat} {o : Nat} (hms : ∀ m ∈ ([1] : List Nat), o ≠ m) : m_end σ r o = σ o := by
  unfold m_end
  simp only [List.mem_cons, List.not_mem_nil, or_false, forall_eq_or_imp, forall_eq] at hms
  rw [pr_up_ne (by omega), fr_m_end_it2 (by simp only [List.mem_cons, List.not_mem_nil, or_false, forall_eq_or_imp, forall_eq]; omega)]

theorem fw_m_end {σ : pr_I} {r : Nat} {j0 : Nat} (hj : j0 < 12) (hmw : ∀ m ∈ ([] : List Nat), j0 ≠ m) : m_end σ r 1 j0 = σ 1 j0 := by
  unfold m_end
  exact ((pr_upk (by omega)).trans (fw_m_end_it2 hj (fun m hm => by cases hm)))
