noncomputable def m_own_r (σ : pr_I) (c : Nat) : Int32 := (σ 1 c)
noncomputable def m_own (σ : pr_I) (c : Nat) : pr_I := (pr_up σ 0 6 (0 : Int32))
set_option maxRecDepth 100000 in
set_option maxHeartbeats 400000 in
theorem c_m_own {g : pr_C} {l : Launch} (hl : l.stackTraces = false) {T : pr_T} {I : pr_I} {L : pr_L} {m : Nat} {σ : pr_I} {c : Nat} (hm : pr_Mo T m) (hI : mI σ) (hc : c < 12) : pr_M g l 1 0 0 mX8_own [.ref m, .int (nI c)] T (rg_put I m 16 σ) L (pr_R (some (.int (m_own_r σ c))) T (rg_put I m 16 (m_own σ c)) L) pr_no := by
  refine pr_ofG (by decide) rfl hl (Nat.le_of_ble_eq_true rfl) (fun X hA hX hXn hXt => ?_)
  subst hX
  show pr_G g X mX8_own.2.2.1 _ 0 0 0 [.ref m, .int (nI c)] [] T (rg_put I m 16 σ) L
  have hn5 := mI_n5 hI
  have hr4 := mI_nr4 hI
  have hl24 := mI_nl24 hI
  have hn12 := mI_nn12 hI
  refine pr_aload_n hA dX8_own_0 rfl ?_
  refine pr_iconst hA (0) dX8_own_1 (by decide) ?_
  refine pr_putE (I' := (rg_put I m 16 (pr_up σ 0 6 (0 : Int32)))) hA f_X8_60 rfl (mo_k0 hm) (rg_up0 (by decide)) dX8_own_2 ?_
  refine pr_aload_n hA dX8_own_5 rfl ?_
  refine pr_getR hA f_X8_9 rfl (mo_k0 hm) (mo_f0_0 hm) dX8_own_6 ?_
  refine pr_iload_n hA dX8_own_9 rfl ?_
  refine pr_ialdM (v := (σ 1 c)) hA (mo_k1 hm) (by omega) (by omega) ((rg_val (by decide)).trans (pr_upv (by decide))) dX8_own_10 ?_
  exact pr_ireturn hA rfl rfl (Nat.zero_le _) (Nat.zero_le _) dX8_own_11 ⟨rfl, rfl, rfl, rfl⟩

theorem fr_m_own {σ : pr_I} {c : Nat} {o : Nat} (hms : ∀ m ∈ ([0] : List Nat), o ≠ m) : m_own σ c o = σ o := by
  unfold m_own
  simp only [List.mem_cons, List.not_mem_nil, or_false, forall_eq_or_imp, forall_eq] at hms
  rw [pr_up_ne (by omega)]

noncomputable def m_many_it4 (σ : pr_I) (s : Int32) : Nat → Int32
  | 0 => (0 : Int32)
  | k + 1 => ((m_many_it4 σ s k) + (if (σ 1 (264 + 28 * k + 4)) = s then (1 : Int32) else (0 : Int32)))
noncomputable def m_many_r (σ : pr_I) (s : Int32) : Int32 := (m_many_it4 σ s (mrn σ))
set_option maxRecDepth 100000 in
set_option maxHeartbeats 400000 in
theorem c_m_many {g : pr_C} {l : Launch} (hl : l.stackTraces = false) {T : pr_T} {I : pr_I} {L : pr_L} {m : Nat} {σ : pr_I} {s : Int32} (hm : pr_Mo T m) (hI : mI σ) : pr_M g l 3 0 0 mX8_manyIn [.ref m, .int s] T (rg_put I m 16 σ) L (pr_R (some (.int (m_many_r σ s))) T (rg_put I m 16 σ) L) pr_no := by
  refine pr_ofG (by decide) rfl hl (Nat.le_of_ble_eq_true rfl) (fun X hA hX hXn hXt => ?_)
  subst hX
  show pr_G g X mX8_manyIn.2.2.1 _ 0 0 0 [.ref m, .int s, .null, .null] [] T (rg_put I m 16 σ) L
  have hn5 := mI_n5 hI
  have hr4 := mI_nr4 hI
  have hl24 := mI_nl24 hI
  have hn12 := mI_nn12 hI
  refine pr_iconst hA (0) dX8_manyIn_0 (by decide) ?_
  refine pr_istore_n (ls' := [_, _, _, _]) hA dX8_manyIn_1 (by decide) rfl ?_
  refine pr_iconst hA (nI 0) dX8_manyIn_2 (by decide) ?_
  refine pr_istore_n (ls' := [_, _, _, _]) hA dX8_manyIn_3 (by decide) rfl ?_
  have lp4 : ∀ (j k : Nat), (mrn σ) - k = j → k ≤ (mrn σ) → pr_G g X mX8_manyIn.2.2.1 (pr_MQ g X (pr_R (some (.int (m_many_r σ s))) T (rg_put I m 16 σ) L) pr_no 0 0) 0 0 4 [.ref m, .int s, .int (m_many_it4 σ s k), .int (nI k)] [] T (rg_put I m 16 σ) L := by
    intro j
    induction j using Nat.strongRecOn with | ind j ih4 =>
    intro k hj4 hk4
    refine pr_iload_n hA dX8_manyIn_4 rfl ?_
    refine pr_aload_n hA dX8_manyIn_5 rfl ?_
    refine pr_getR hA f_X8_9 rfl (mo_k0 hm) (mo_f0_0 hm) dX8_manyIn_6 ?_
    refine pr_bipush hA (nI 8) dX8_manyIn_9 (by decide) ?_
    refine pr_ialdM (v := (nI (mrn σ))) hA (mo_k1 hm) (by omega) (by omega) ((rg_val (by decide)).trans (mI_nr hI)) dX8_manyIn_11 ?_
    refine pr_icmp_ge hA 39 dX8_manyIn_12 (by decide) (fun c_12 => ?_) (fun c_12 => ?_)
    · have n_12 : (mrn σ) ≤ k := (nI_leI (by omega) (by omega)).mp c_12
      have hex : (mrn σ) = k := by omega
      subst hex
      refine pr_iload_n hA dX8_manyIn_39 rfl ?_
      exact pr_ireturn hA rfl rfl (Nat.zero_le _) (Nat.zero_le _) dX8_manyIn_40 ⟨rfl, rfl, rfl, rfl⟩
    · have n_12 : ¬ (mrn σ) ≤ k := fun q => c_12 ((nI_leI (by omega) (by omega)).mpr q)
      refine pr_iload_n hA dX8_manyIn_15 rfl ?_
      refine pr_aload_n hA dX8_manyIn_16 rfl ?_
      refine pr_iload_n hA dX8_manyIn_17 rfl ?_
      refine pr_iconst hA (4) dX8_manyIn_18 (by decide) ?_
      refine pr_callVi hA [.int (nI k), .int (4 : Int32)] (c_m_req (m := m) (k := k) (c := 4) (σ := σ) (pr_hl hA) hm (by omega) (by omega)) v_X8_229 (mo_k0 hm) (by decide) rfl rfl rfl (by decide) (Nat.zero_le _) (Nat.zero_le _) rfl (Nat.le_of_ble_eq_true rfl) dX8_manyIn_19 ?_
      refine pr_iload_n hA dX8_manyIn_22 rfl ?_
      refine pr_join (c := (σ 1 (264 + 28 * k + 4)) = s) (J := 31) (st := [.int (m_many_it4 σ s k)]) (1 : Int32) (0 : Int32) inferInstance (fun kt kf => ?_) ?_
      · refine pr_icmp_ne hA 30 dX8_manyIn_23 (by decide) (fun c_23 => ?_) (fun c_23 => ?_)
        · refine pr_iconst hA (0) dX8_manyIn_30 (by decide) ?_
          exact kf c_23
        · refine pr_iconst hA (1) dX8_manyIn_26 (by decide) ?_
          refine pr_goto hA 31 dX8_manyIn_27 (by decide) ?_
          exact kt c_23
      · refine pr_iadd hA dX8_manyIn_31 ?_
        refine pr_istore_n (ls' := [_, _, _, _]) hA dX8_manyIn_32 (by decide) rfl ?_
        refine pr_iinc (ls' := [_, _, _, _]) hA (nI (k + 1)) dX8_manyIn_33 (by decide) rfl (nI_inc _) rfl ?_
        refine pr_goto hA 4 dX8_manyIn_36 (by decide) ?_
        have hb := ih4 ((mrn σ) - (k + 1)) (by omega) (k + 1) rfl (by omega)
        simp only [m_many_it4] at hb
        exact hb
  exact (lp4 ((mrn σ) - 0) 0 rfl (by omega))

noncomputable def m_sum_it5 (σ : pr_I) (c : Nat) : Nat → Int64
  | 0 => (0 : Int64)
  | k + 1 => ((m_sum_it5 σ c k) + ((σ 1 (264 + 28 * k + c))).toInt64)
noncomputable def m_sum_r (σ : pr_I) (c : Nat) : Int64 := (m_sum_it5 σ c (mrn σ))
set_option maxRecDepth 100000 in
set_option maxHeartbeats 400000 in
theorem c_m_sum {g : pr_C} {l : Launch} (hl : l.stackTraces = false) {T : pr_T} {I : pr_I} {L : pr_L} {m : Nat} {σ : pr_I} {c : Nat} (hm : pr_Mo T m) (hI : mI σ) (hc : c < 28) : pr_M g l 3 0 0 mX8_sum [.ref m, .int (nI c)] T (rg_put I m 16 σ) L (pr_R (some (.long (m_sum_r σ c))) T (rg_put I m 16 σ) L) pr_no := by
  refine pr_ofG (by decide) rfl hl (Nat.le_of_ble_eq_true rfl) (fun X hA hX hXn hXt => ?_)
  subst hX
  show pr_G g X mX8_sum.2.2.1 _ 0 0 0 [.ref m, .int (nI c), .null, .null, .null] [] T (rg_put I m 16 σ) L
  have hn5 := mI_n5 hI
  have hr4 := mI_nr4 hI
  have hl24 := mI_nl24 hI
  have hn12 := mI_nn12 hI
  refine pr_lconst hA 0 dX8_sum_0 (by decide) ?_
  refine pr_lstore_n (ls' := [_, _, _, _, _]) hA dX8_sum_1 (by decide) rfl ?_
  refine pr_iconst hA (nI 0) dX8_sum_2 (by decide) ?_
  refine pr_istore (ls' := [_, _, _, _, _]) hA dX8_sum_3 (by decide) rfl ?_
  have lp5 : ∀ (j k : Nat), (mrn σ) - k = j → k ≤ (mrn σ) → pr_G g X mX8_sum.2.2.1 (pr_MQ g X (pr_R (some (.long (m_sum_r σ c))) T (rg_put I m 16 σ) L) pr_no 0 0) 0 0 5 [.ref m, .int (nI c), .long (m_sum_it5 σ c k), .null, .int (nI k)] [] T (rg_put I m 16 σ) L := by
    intro j
    induction j using Nat.strongRecOn with | ind j ih5 =>
    intro k hj5 hk5
    refine pr_iload hA dX8_sum_5 rfl ?_
    refine pr_aload_n hA dX8_sum_7 rfl ?_
    refine pr_getR hA f_X8_9 rfl (mo_k0 hm) (mo_f0_0 hm) dX8_sum_8 ?_
    refine pr_bipush hA (nI 8) dX8_sum_11 (by decide) ?_
    refine pr_ialdM (v := (nI (mrn σ))) hA (mo_k1 hm) (by omega) (by omega) ((rg_val (by decide)).trans (mI_nr hI)) dX8_sum_13 ?_
    refine pr_icmp_ge hA 34 dX8_sum_14 (by decide) (fun c_14 => ?_) (fun c_14 => ?_)
    · have n_14 : (mrn σ) ≤ k := (nI_leI (by omega) (by omega)).mp c_14
      have hex : (mrn σ) = k := by omega
      subst hex
      refine pr_lload_n hA dX8_sum_34 rfl ?_
      exact pr_lreturn hA rfl (Nat.zero_le _) (Nat.zero_le _) dX8_sum_35 ⟨rfl, rfl, rfl, rfl⟩
    · have n_14 : ¬ (mrn σ) ≤ k := fun q => c_14 ((nI_leI (by omega) (by omega)).mpr q)
      refine pr_lload_n hA dX8_sum_17 rfl ?_
      refine pr_aload_n hA dX8_sum_18 rfl ?_
      refine pr_iload hA dX8_sum_19 rfl ?_
      refine pr_iload_n hA dX8_sum_21 rfl ?_
      refine pr_callVi hA [.int (nI k), .int (nI c)] (c_m_req (m := m) (k := k) (c := c) (σ := σ) (pr_hl hA) hm (by omega) (by omega)) v_X8_229 (mo_k0 hm) (by decide) rfl rfl rfl (by decide) (Nat.zero_le _) (Nat.zero_le _) rfl (Nat.le_of_ble_eq_true rfl) dX8_sum_22 ?_
      refine pr_i2l hA dX8_sum_25 ?_
      refine pr_ladd hA dX8_sum_26 ?_
      refine pr_lstore_n (ls' := [_, _, _, _, _]) hA dX8_sum_27 (by decide) rfl ?_
      refine pr_iinc (ls' := [_, _, _, _, _]) hA (nI (k + 1)) dX8_sum_28 (by decide) rfl (nI_inc _) rfl ?_
      refine pr_goto hA 5 dX8_sum_31 (by decide) ?_
      have hb := ih5 ((mrn σ) - (k + 1)) (by omega) (k + 1) rfl (by omega)
      simp only [m_sum_it5] at hb
      exact hb
  exact (lp5 ((mrn σ) - 0) 0 rfl (by omega))

noncomputable def mf_thrown_r (σ : pr_I) : Int32 := (σ 0 6)
set_option maxRecDepth 100000 in
set_option maxHeartbeats 400000 in
theorem c_mf_thrown {g : pr_C} {l : Launch} (hl : l.stackTraces = false) {T : pr_T} {I : pr_I} {L : pr_L} {m : Nat} {σ : pr_I}  (hm : pr_Mo T m) (hI : mI σ) : pr_M g l 11 0 0 mX8_thrown [.ref m] T (rg_put I m 16 σ) L (pr_R (some (.int (mf_thrown_r σ))) T (rg_put I m 16 σ) L) pr_no := by
  refine pr_ofG (by decide) rfl hl (Nat.le_of_ble_eq_true rfl) (fun X hA hX hXn hXt => ?_)
  subst hX
  show pr_G g X mX8_thrown.2.2.1 _ 0 0 0 [.ref m] [] T (rg_put I m 16 σ) L
  have hn5 := mI_n5 hI
  have hr4 := mI_nr4 hI
  have hl24 := mI_nl24 hI
  have hn12 := mI_nn12 hI
  refine pr_aload_n hA dX8_thrown_0 rfl ?_
  refine pr_getE (v := (σ 0 6)) hA f_X8_60 rfl (mo_k0 hm) (rg_val0 (by decide)) dX8_thrown_1 ?_
  exact pr_ireturn hA rfl rfl (Nat.zero_le _) (Nat.zero_le _) dX8_thrown_4 ⟨rfl, rfl, rfl, rfl⟩

noncomputable def mf_nodeCount_r (σ : pr_I) : Int32 := (m_own_r σ 6)
noncomputable def mf_nodeCount (σ : pr_I) : pr_I := (m_own σ 6)
set_option maxRecDepth 100000 in
set_option maxHeartbeats 400000 in
theorem c_mf_nodeCount {g : pr_C} {l : Launch} (hl : l.stackTraces = false) {T : pr_T} {I : pr_I} {L : pr_L} {m : Nat} {σ : pr_I}  (hm : pr_Mo T m) (hI : mI σ) : pr_M g l 11 0 0 mX8_nodeCount [.ref m] T (rg_put I m 16 σ) L (pr_R (some (.int (mf_nodeCount_r σ))) T (rg_put I m 16 (mf_nodeCount σ)) L) pr_no := by
  refine pr_ofG (by decide) rfl hl (Nat.le_of_ble_eq_true rfl) (fun X hA hX hXn hXt => ?_)
  subst hX
  show pr_G g X mX8_nodeCount.2.2.1 _ 0 0 0 [.ref m] [] T (rg_put I m 16 σ) L
  have hn5 := mI_n5 hI
  have hr4 := mI_nr4 hI
  have hl24 := mI_nl24 hI
  have hn12 := mI_nn12 hI
  refine pr_aload_n hA dX8_nodeCount_0 rfl ?_
  refine pr_bipush hA (nI 6) dX8_nodeCount_1 (by decide) ?_
  have hv3 : mI σ := hI
  refine pr_callVi hA [.int (nI 6)] (c_m_own (m := m) (σ := σ) (c := 6) (pr_hl hA) hm hv3 (by first | omega | assumption)) v_X8_309 (mo_k0 hm) (by decide) rfl rfl rfl (by decide) (Nat.zero_le _) (Nat.zero_le _) rfl (Nat.le_of_ble_eq_true rfl) dX8_nodeCount_3 ?_
  exact pr_ireturn hA rfl rfl (Nat.zero_le _) (Nat.zero_le _) dX8_nodeCount_6 ⟨rfl, rfl, rfl, rfl⟩

theorem fr_mf_nodeCount {σ : pr_I}  {o : Nat} (hms : ∀ m ∈ ([0] : List Nat), o ≠ m) : mf_nodeCount σ o = σ o := by
  unfold mf_nodeCount
  simp only [List.mem_cons, List.not_mem_nil, or_false, forall_eq_or_imp, forall_eq] at hms
  rw [fr_m_own (by simp only [List.mem_cons, List.not_mem_nil, or_false, forall_eq_or_imp, forall_eq]; omega)]

noncomputable def mf_linkCount_r (σ : pr_I) : Int32 := (m_own_r σ 7)
noncomputable def mf_linkCount (σ : pr_I) : pr_I := (m_own σ 7)
set_option maxRecDepth 100000 in
set_option maxHeartbeats 400000 in
theorem c_mf_linkCount {g : pr_C} {l : Launch} (hl : l.stackTraces = false) {T : pr_T} {I : pr_I} {L : pr_L} {m : Nat} {σ : pr_I}  (hm : pr_Mo T m) (hI : mI σ) : pr_M g l 11 0 0 mX8_linkCount [.ref m] T (rg_put I m 16 σ) L (pr_R (some (.int (mf_linkCount_r σ))) T (rg_put I m 16 (mf_linkCount σ)) L) pr_no := by
  refine pr_ofG (by decide) rfl hl (Nat.le_of_ble_eq_true rfl) (fun X hA hX hXn hXt => ?_)
  subst hX
  show pr_G g X mX8_linkCount.2.2.1 _ 0 0 0 [.ref m] [] T (rg_put I m 16 σ) L
  have hn5 := mI_n5 hI
  have hr4 := mI_nr4 hI
  have hl24 := mI_nl24 hI
  have hn12 := mI_nn12 hI
  refine pr_aload_n hA dX8_linkCount_0 rfl ?_
  refine pr_bipush hA (nI 7) dX8_linkCount_1 (by decide) ?_
  have hv3 : mI σ := hI
  refine pr_callVi hA [.int (nI 7)] (c_m_own (m := m) (σ := σ) (c := 7) (pr_hl hA) hm hv3 (by first | omega | assumption)) v_X8_309 (mo_k0 hm) (by decide) rfl rfl rfl (by decide) (Nat.zero_le _) (Nat.zero_le _) rfl (Nat.le_of_ble_eq_true rfl) dX8_linkCount_3 ?_
  exact pr_ireturn hA rfl rfl (Nat.zero_le _) (Nat.zero_le _) dX8_linkCount_6 ⟨rfl, rfl, rfl, rfl⟩

theorem fr_mf_linkCount {σ : pr_I}  {o : Nat} (hms : ∀ m ∈ ([0] : List Nat), o ≠ m) : mf_linkCount σ o = σ o := by
  unfold mf_linkCount
  simp only [List.mem_cons, List.not_mem_nil, or_false, forall_eq_or_imp, forall_eq] at hms
  rw [fr_m_own (by simp only [List.mem_cons, List.not_mem_nil, or_false, forall_eq_or_imp, forall_eq]; omega)]

noncomputable def mf_time_r (σ : pr_I) : Int32 := (m_own_r σ 0)
noncomputable def mf_time (σ : pr_I) : pr_I := (m_own σ 0)
set_option maxRecDepth 100000 in
set_option maxHeartbeats 400000 in
theorem c_mf_time {g : pr_C} {l : Launch} (hl : l.stackTraces = false) {T : pr_T} {I : pr_I} {L : pr_L} {m : Nat} {σ : pr_I}  (hm : pr_Mo T m) (hI : mI σ) : pr_M g l 11 0 0 mX8_time [.ref m] T (rg_put I m 16 σ) L (pr_R (some (.int (mf_time_r σ))) T (rg_put I m 16 (mf_time σ)) L) pr_no := by
  refine pr_ofG (by decide) rfl hl (Nat.le_of_ble_eq_true rfl) (fun X hA hX hXn hXt => ?_)
  subst hX
  show pr_G g X mX8_time.2.2.1 _ 0 0 0 [.ref m] [] T (rg_put I m 16 σ) L
  have hn5 := mI_n5 hI
  have hr4 := mI_nr4 hI
  have hl24 := mI_nl24 hI
  have hn12 := mI_nn12 hI
  refine pr_aload_n hA dX8_time_0 rfl ?_
  refine pr_iconst hA (nI 0) dX8_time_1 (by decide) ?_
  have hv2 : mI σ := hI
  refine pr_callVi hA [.int (nI 0)] (c_m_own (m := m) (σ := σ) (c := 0) (pr_hl hA) hm hv2 (by first | omega | assumption)) v_X8_309 (mo_k0 hm) (by decide) rfl rfl rfl (by decide) (Nat.zero_le _) (Nat.zero_le _) rfl (Nat.le_of_ble_eq_true rfl) dX8_time_2 ?_
  exact pr_ireturn hA rfl rfl (Nat.zero_le _) (Nat.zero_le _) dX8_time_5 ⟨rfl, rfl, rfl, rfl⟩

theorem fr_mf_time {σ : pr_I}  {o : Nat} (hms : ∀ m ∈ ([0] : List Nat), o ≠ m) : mf_time σ o = σ o := by
  unfold mf_time
  simp only [List.mem_cons, List.not_mem_nil, or_false, forall_eq_or_imp, forall_eq] at hms
  rw [fr_m_own (by simp only [List.mem_cons, List.not_mem_nil, or_false, forall_eq_or_imp, forall_eq]; omega)]

noncomputable def mf_requestCount_r (σ : pr_I) : Int32 := (m_own_r σ 8)
noncomputable def mf_requestCount (σ : pr_I) : pr_I := (m_own σ 8)
set_option maxRecDepth 100000 in
set_option maxHeartbeats 400000 in
theorem c_mf_requestCount {g : pr_C} {l : Launch} (hl : l.stackTraces = false) {T : pr_T} {I : pr_I} {L : pr_L} {m : Nat} {σ : pr_I}  (hm : pr_Mo T m) (hI : mI σ) : pr_M g l 11 0 0 mX8_requestCount [.ref m] T (rg_put I m 16 σ) L (pr_R (some (.int (mf_requestCount_r σ))) T (rg_put I m 16 (mf_requestCount σ)) L) pr_no := by
  refine pr_ofG (by decide) rfl hl (Nat.le_of_ble_eq_true rfl) (fun X hA hX hXn hXt => ?_)
  subst hX
  show pr_G g X mX8_requestCount.2.2.1 _ 0 0 0 [.ref m] [] T (rg_put I m 16 σ) L
  have hn5 := mI_n5 hI
  have hr4 := mI_nr4 hI
  have hl24 := mI_nl24 hI
  have hn12 := mI_nn12 hI
  refine pr_aload_n hA dX8_requestCount_0 rfl ?_
  refine pr_bipush hA (nI 8) dX8_requestCount_1 (by decide) ?_
  have hv3 : mI σ := hI
  refine pr_callVi hA [.int (nI 8)] (c_m_own (m := m) (σ := σ) (c := 8) (pr_hl hA) hm hv3 (by first | omega | assumption)) v_X8_309 (mo_k0 hm) (by decide) rfl rfl rfl (by decide) (Nat.zero_le _) (Nat.zero_le _) rfl (Nat.le_of_ble_eq_true rfl) dX8_requestCount_3 ?_
  exact pr_ireturn hA rfl rfl (Nat.zero_le _) (Nat.zero_le _) dX8_requestCount_6 ⟨rfl, rfl, rfl, rfl⟩

theorem fr_mf_requestCount {σ : pr_I}  {o : Nat} (hms : ∀ m ∈ ([0] : List Nat), o ≠ m) : mf_requestCount σ o = σ o := by
  unfold mf_requestCount
  simp only [List.mem_cons, List.not_mem_nil, or_false, forall_eq_or_imp, forall_eq] at hms
  rw [fr_m_own (by simp only [List.mem_cons, List.not_mem_nil, or_false, forall_eq_or_imp, forall_eq]; omega)]

noncomputable def mf_ticketCount_r (σ : pr_I) : Int32 := (m_own_r σ 9)
noncomputable def mf_ticketCount (σ : pr_I) : pr_I := (m_own σ 9)
set_option maxRecDepth 100000 in
set_option maxHeartbeats 400000 in
theorem c_mf_ticketCount {g : pr_C} {l : Launch} (hl : l.stackTraces = false) {T : pr_T} {I : pr_I} {L : pr_L} {m : Nat} {σ : pr_I}  (hm : pr_Mo T m) (hI : mI σ) : pr_M g l 11 0 0 mX8_ticketCount [.ref m] T (rg_put I m 16 σ) L (pr_R (some (.int (mf_ticketCount_r σ))) T (rg_put I m 16 (mf_ticketCount σ)) L) pr_no := by
  refine pr_ofG (by decide) rfl hl (Nat.le_of_ble_eq_true rfl) (fun X hA hX hXn hXt => ?_)
  subst hX
  show pr_G g X mX8_ticketCount.2.2.1 _ 0 0 0 [.ref m] [] T (rg_put I m 16 σ) L
  have hn5 := mI_n5 hI
  have hr4 := mI_nr4 hI
  have hl24 := mI_nl24 hI
  have hn12 := mI_nn12 hI
  refine pr_aload_n hA dX8_ticketCount_0 rfl ?_
  refine pr_bipush hA (nI 9) dX8_ticketCount_1 (by decide) ?_
  have hv3 : mI σ := hI
  refine pr_callVi hA [.int (nI 9)] (c_m_own (m := m) (σ := σ) (c := 9) (pr_hl hA) hm hv3 (by first | omega | assumption)) v_X8_309 (mo_k0 hm) (by decide) rfl rfl rfl (by decide) (Nat.zero_le _) (Nat.zero_le _) rfl (Nat.le_of_ble_eq_true rfl) dX8_ticketCount_3 ?_
  exact pr_ireturn hA rfl rfl (Nat.zero_le _) (Nat.zero_le _) dX8_ticketCount_6 ⟨rfl, rfl, rfl, rfl⟩

theorem fr_mf_ticketCount {σ : pr_I}  {o : Nat} (hms : ∀ m ∈ ([0] : List Nat), o ≠ m) : mf_ticketCount σ o = σ o := by
  unfold mf_ticketCount
  simp only [List.mem_cons, List.not_mem_nil, or_false, forall_eq_or_imp, forall_eq] at hms
  rw [fr_m_own (by simp only [List.mem_cons, List.not_mem_nil, or_false, forall_eq_or_imp, forall_eq]; omega)]

noncomputable def mf_linkValue_r (σ : pr_I) (k c : Nat) : Int32 := match c with
  | 5 => m_prom_r (pr_up σ 0 6 (0 : Int32)) (mtn σ) (nI k)
  | 6 => m_av_r (pr_up σ 0 6 (0 : Int32)) (mtn σ) k
  | 7 => σ 1 (96 + 7 * k + 6)
  | 8 => σ 1 (96 + 7 * k + 5)
  | c => σ 1 (96 + 7 * k + c)
set_option maxRecDepth 100000 in
set_option maxHeartbeats 400000 in
theorem c_mf_linkValue {g : pr_C} {l : Launch} (hl : l.stackTraces = false) {T : pr_T} {I : pr_I} {L : pr_L} {m : Nat} {σ : pr_I} {k c : Nat} (hm : pr_Mo T m) (hI : mI σ) (hk : k < mln σ) (hc : c ≤ 8) : pr_M g l 11 0 0 mX8_linkValue [.ref m, .int (nI k), .int (nI c)] T (rg_put I m 16 σ) L (pr_R (some (.int (mf_linkValue_r σ k c))) T (rg_put I m 16 (pr_up σ 0 6 (0 : Int32))) L) pr_no := by
  refine pr_ofG (by decide) rfl hl (Nat.le_of_ble_eq_true rfl) (fun X hA hX hXn hXt => ?_)
  subst hX
  show pr_G g X mX8_linkValue.2.2.1 _ 0 0 0 [.ref m, .int (nI k), .int (nI c)] [] T (rg_put I m 16 σ) L
  have hn5 := mI_n5 hI
  have hr4 := mI_nr4 hI
  have hl24 := mI_nl24 hI
  have hn12 := mI_nn12 hI
  refine pr_aload_n hA dX8_linkValue_0 rfl ?_
  refine pr_iload_n hA dX8_linkValue_1 rfl ?_
  have hv2 : mI σ := hI
  refine pr_callVi hA [.int (nI k)] (c_nl_ok (m := m) (σ := σ) (pr_hl hA) hm hv2 (by omega)) v_X8_315 (mo_k0 hm) (by decide) rfl rfl rfl (by decide) (Nat.zero_le _) (Nat.zero_le _) rfl (Nat.le_of_ble_eq_true rfl) dX8_linkValue_2 ?_
  refine pr_if_ne hA 33 dX8_linkValue_5 (by decide) (fun c_5 => ?_) (fun c_5 => ?_)
  · exact (c_5 (by decide)).elim
  · refine pr_aload_n hA dX8_linkValue_8 rfl ?_
    refine pr_iload_n hA dX8_linkValue_9 rfl ?_
    refine pr_i2l hA dX8_linkValue_10 ?_
    refine pr_lconst hA 0 dX8_linkValue_11 (by decide) ?_
    refine pr_ldc2 hA kK_X8_318 dX8_linkValue_12 ?_
    refine pr_callSi hA [.long (((nI c)).toInt64), .long (0 : Int64), .long (8 : Int64)] (c_inE (m := m) (σ := (pr_up σ 0 6 (0 : Int32))) (v := 1) (pr_hl hA) hm (in_c1 (B := 8) (by omega) (by decide) (by decide))) s_X8_80 rfl (by decide) (Nat.zero_le _) (Nat.zero_le _) rfl (Nat.le_of_ble_eq_true rfl) dX8_linkValue_15 ?_
    refine pr_if_ne hA 25 dX8_linkValue_18 (by decide) (fun c_18 => ?_) (fun c_18 => ?_)
    · refine pr_iconst hA (0) dX8_linkValue_25 (by decide) ?_
      refine pr_iconst hA (2) dX8_linkValue_26 (by decide) ?_
      refine pr_callVi hA [.int (0 : Int32), .int (2 : Int32)] (c_tiE (m := m) (σ := (pr_up σ 0 6 (0 : Int32))) (pr_hl hA) hm (ti_0 pr_upe)) v_X8_301 (mo_k0 hm) (by decide) rfl rfl rfl (by decide) (Nat.zero_le _) (Nat.zero_le _) rfl (Nat.le_of_ble_eq_true rfl) dX8_linkValue_27 ?_
      refine pr_if_eq hA 35 dX8_linkValue_30 (by decide) (fun c_30 => ?_) (fun c_30 => ?_)
      · refine pr_iload_n hA dX8_linkValue_35 rfl ?_
        rcases (by omega : c = 0 ∨ c = 1 ∨ c = 2 ∨ c = 3 ∨ c = 4 ∨ c = 5 ∨ c = 6 ∨ c = 7 ∨ c = 8) with rfl | rfl | rfl | rfl | rfl | rfl | rfl | rfl | rfl
        · refine pr_tableOut hA 95 dX8_linkValue_36 (by decide) (by decide) ?_
          refine pr_aload_n hA dX8_linkValue_95 rfl ?_
          refine pr_iload_n hA dX8_linkValue_96 rfl ?_
          refine pr_iload_n hA dX8_linkValue_97 rfl ?_
          refine pr_callVi hA [.int (nI k), .int (nI 0)] (c_m_link (m := m) (k := k) (c := 0) (σ := (pr_up σ 0 6 (0 : Int32))) (pr_hl hA) hm (by omega) (by omega)) v_X8_204 (mo_k0 hm) (by decide) rfl rfl rfl (by decide) (Nat.zero_le _) (Nat.zero_le _) rfl (Nat.le_of_ble_eq_true rfl) dX8_linkValue_98 ?_
          rw [show ((pr_up σ 0 6 (0 : Int32)) 1 (96 + 7 * k + 0)) = (σ 1 (96 + 7 * k + 0)) from (pr_upv (by decide))]
          exact pr_ireturn hA rfl rfl (Nat.zero_le _) (Nat.zero_le _) dX8_linkValue_101 ⟨rfl, rfl, rfl, rfl⟩
        · refine pr_tableOut hA 95 dX8_linkValue_36 (by decide) (by decide) ?_
          refine pr_aload_n hA dX8_linkValue_95 rfl ?_
          refine pr_iload_n hA dX8_linkValue_96 rfl ?_
          refine pr_iload_n hA dX8_linkValue_97 rfl ?_
          refine pr_callVi hA [.int (nI k), .int (nI 1)] (c_m_link (m := m) (k := k) (c := 1) (σ := (pr_up σ 0 6 (0 : Int32))) (pr_hl hA) hm (by omega) (by omega)) v_X8_204 (mo_k0 hm) (by decide) rfl rfl rfl (by decide) (Nat.zero_le _) (Nat.zero_le _) rfl (Nat.le_of_ble_eq_true rfl) dX8_linkValue_98 ?_
          rw [show ((pr_up σ 0 6 (0 : Int32)) 1 (96 + 7 * k + 1)) = (σ 1 (96 + 7 * k + 1)) from (pr_upv (by decide))]
          exact pr_ireturn hA rfl rfl (Nat.zero_le _) (Nat.zero_le _) dX8_linkValue_101 ⟨rfl, rfl, rfl, rfl⟩
        · refine pr_tableOut hA 95 dX8_linkValue_36 (by decide) (by decide) ?_
          refine pr_aload_n hA dX8_linkValue_95 rfl ?_
          refine pr_iload_n hA dX8_linkValue_96 rfl ?_
          refine pr_iload_n hA dX8_linkValue_97 rfl ?_
          refine pr_callVi hA [.int (nI k), .int (nI 2)] (c_m_link (m := m) (k := k) (c := 2) (σ := (pr_up σ 0 6 (0 : Int32))) (pr_hl hA) hm (by omega) (by omega)) v_X8_204 (mo_k0 hm) (by decide) rfl rfl rfl (by decide) (Nat.zero_le _) (Nat.zero_le _) rfl (Nat.le_of_ble_eq_true rfl) dX8_linkValue_98 ?_
          rw [show ((pr_up σ 0 6 (0 : Int32)) 1 (96 + 7 * k + 2)) = (σ 1 (96 + 7 * k + 2)) from (pr_upv (by decide))]
          exact pr_ireturn hA rfl rfl (Nat.zero_le _) (Nat.zero_le _) dX8_linkValue_101 ⟨rfl, rfl, rfl, rfl⟩
        · refine pr_tableOut hA 95 dX8_linkValue_36 (by decide) (by decide) ?_
          refine pr_aload_n hA dX8_linkValue_95 rfl ?_
          refine pr_iload_n hA dX8_linkValue_96 rfl ?_
          refine pr_iload_n hA dX8_linkValue_97 rfl ?_
          refine pr_callVi hA [.int (nI k), .int (nI 3)] (c_m_link (m := m) (k := k) (c := 3) (σ := (pr_up σ 0 6 (0 : Int32))) (pr_hl hA) hm (by omega) (by omega)) v_X8_204 (mo_k0 hm) (by decide) rfl rfl rfl (by decide) (Nat.zero_le _) (Nat.zero_le _) rfl (Nat.le_of_ble_eq_true rfl) dX8_linkValue_98 ?_
          rw [show ((pr_up σ 0 6 (0 : Int32)) 1 (96 + 7 * k + 3)) = (σ 1 (96 + 7 * k + 3)) from (pr_upv (by decide))]
          exact pr_ireturn hA rfl rfl (Nat.zero_le _) (Nat.zero_le _) dX8_linkValue_101 ⟨rfl, rfl, rfl, rfl⟩
        · refine pr_tableOut hA 95 dX8_linkValue_36 (by decide) (by decide) ?_
          refine pr_aload_n hA dX8_linkValue_95 rfl ?_
          refine pr_iload_n hA dX8_linkValue_96 rfl ?_
          refine pr_iload_n hA dX8_linkValue_97 rfl ?_
          refine pr_callVi hA [.int (nI k), .int (nI 4)] (c_m_link (m := m) (k := k) (c := 4) (σ := (pr_up σ 0 6 (0 : Int32))) (pr_hl hA) hm (by omega) (by omega)) v_X8_204 (mo_k0 hm) (by decide) rfl rfl rfl (by decide) (Nat.zero_le _) (Nat.zero_le _) rfl (Nat.le_of_ble_eq_true rfl) dX8_linkValue_98 ?_
          rw [show ((pr_up σ 0 6 (0 : Int32)) 1 (96 + 7 * k + 4)) = (σ 1 (96 + 7 * k + 4)) from (pr_upv (by decide))]
          exact pr_ireturn hA rfl rfl (Nat.zero_le _) (Nat.zero_le _) dX8_linkValue_101 ⟨rfl, rfl, rfl, rfl⟩
        · refine pr_tableIn (off := 32) hA 68 dX8_linkValue_36 (by decide) (by decide) (by decide +kernel) (by decide) ?_
          refine pr_aload_n hA dX8_linkValue_68 rfl ?_
          refine pr_iload_n hA dX8_linkValue_69 rfl ?_
          refine pr_callVi hA [.int (nI k)] (c_m_prom (m := m) (σ := (pr_up σ 0 6 (0 : Int32))) (n := (mtn σ)) (x := (nI k)) (pr_hl hA) hm ((pr_upv (by decide)).trans (mI_n hI)) (mI_n5 hI)) v_X8_206 (mo_k0 hm) (by decide) rfl rfl rfl (by decide) (Nat.zero_le _) (Nat.zero_le _) rfl (Nat.le_of_ble_eq_true rfl) dX8_linkValue_70 ?_
          exact pr_ireturn hA rfl rfl (Nat.zero_le _) (Nat.zero_le _) dX8_linkValue_73 ⟨rfl, rfl, rfl, rfl⟩
        · refine pr_tableIn (off := 38) hA 74 dX8_linkValue_36 (by decide) (by decide) (by decide +kernel) (by decide) ?_
          refine pr_aload_n hA dX8_linkValue_74 rfl ?_
          refine pr_iload_n hA dX8_linkValue_75 rfl ?_
          refine pr_callVi hA [.int (nI k)] (c_m_av (m := m) (σ := (pr_up σ 0 6 (0 : Int32))) (n := (mtn σ)) (lk := k) (pr_hl hA) hm ((pr_upv (by decide)).trans (mI_n hI)) (mI_n5 hI) (by omega)) v_X8_209 (mo_k0 hm) (by decide) rfl rfl rfl (by decide) (Nat.zero_le _) (Nat.zero_le _) rfl (Nat.le_of_ble_eq_true rfl) dX8_linkValue_76 ?_
          exact pr_ireturn hA rfl rfl (Nat.zero_le _) (Nat.zero_le _) dX8_linkValue_79 ⟨rfl, rfl, rfl, rfl⟩
        · refine pr_tableIn (off := 44) hA 80 dX8_linkValue_36 (by decide) (by decide) (by decide +kernel) (by decide) ?_
          refine pr_aload_n hA dX8_linkValue_80 rfl ?_
          refine pr_iload_n hA dX8_linkValue_81 rfl ?_
          refine pr_bipush hA (6) dX8_linkValue_82 (by decide) ?_
          refine pr_callVi hA [.int (nI k), .int (6 : Int32)] (c_m_link (m := m) (k := k) (c := 6) (σ := (pr_up σ 0 6 (0 : Int32))) (pr_hl hA) hm (by omega) (by omega)) v_X8_204 (mo_k0 hm) (by decide) rfl rfl rfl (by decide) (Nat.zero_le _) (Nat.zero_le _) rfl (Nat.le_of_ble_eq_true rfl) dX8_linkValue_84 ?_
          rw [show ((pr_up σ 0 6 (0 : Int32)) 1 (96 + 7 * k + 6)) = (σ 1 (96 + 7 * k + 6)) from (pr_upv (by decide))]
          exact pr_ireturn hA rfl rfl (Nat.zero_le _) (Nat.zero_le _) dX8_linkValue_87 ⟨rfl, rfl, rfl, rfl⟩
        · refine pr_tableIn (off := 52) hA 88 dX8_linkValue_36 (by decide) (by decide) (by decide +kernel) (by decide) ?_
          refine pr_aload_n hA dX8_linkValue_88 rfl ?_
          refine pr_iload_n hA dX8_linkValue_89 rfl ?_
          refine pr_iconst hA (5) dX8_linkValue_90 (by decide) ?_
          refine pr_callVi hA [.int (nI k), .int (5 : Int32)] (c_m_link (m := m) (k := k) (c := 5) (σ := (pr_up σ 0 6 (0 : Int32))) (pr_hl hA) hm (by omega) (by omega)) v_X8_204 (mo_k0 hm) (by decide) rfl rfl rfl (by decide) (Nat.zero_le _) (Nat.zero_le _) rfl (Nat.le_of_ble_eq_true rfl) dX8_linkValue_91 ?_
          rw [show ((pr_up σ 0 6 (0 : Int32)) 1 (96 + 7 * k + 5)) = (σ 1 (96 + 7 * k + 5)) from (pr_upv (by decide))]
          exact pr_ireturn hA rfl rfl (Nat.zero_le _) (Nat.zero_le _) dX8_linkValue_94 ⟨rfl, rfl, rfl, rfl⟩
      · exact (c_30 (by decide)).elim
    · exact absurd c_18 (by decide)

noncomputable def mf_setting_r (σ : pr_I) (c : Nat) : Int32 := (σ 1 (1 + c))
noncomputable def mf_setting (σ : pr_I) (c : Nat) : pr_I := (pr_up σ 0 6 (0 : Int32))
set_option maxRecDepth 100000 in
set_option maxHeartbeats 400000 in
theorem c_mf_setting {g : pr_C} {l : Launch} (hl : l.stackTraces = false) {T : pr_T} {I : pr_I} {L : pr_L} {m : Nat} {σ : pr_I} {c : Nat} (hm : pr_Mo T m) (hI : mI σ) (hc : c ≤ 4) : pr_M g l 11 0 0 mX8_setting [.ref m, .int (nI c)] T (rg_put I m 16 σ) L (pr_R (some (.int (mf_setting_r σ c))) T (rg_put I m 16 (mf_setting σ c)) L) pr_no := by
  refine pr_ofG (by decide) rfl hl (Nat.le_of_ble_eq_true rfl) (fun X hA hX hXn hXt => ?_)
  subst hX
  show pr_G g X mX8_setting.2.2.1 _ 0 0 0 [.ref m, .int (nI c)] [] T (rg_put I m 16 σ) L
  have hn5 := mI_n5 hI
  have hr4 := mI_nr4 hI
  have hl24 := mI_nl24 hI
  have hn12 := mI_nn12 hI
  refine pr_aload_n hA dX8_setting_0 rfl ?_
  refine pr_iconst hA (0) dX8_setting_1 (by decide) ?_
  refine pr_putE (I' := (rg_put I m 16 (pr_up σ 0 6 (0 : Int32)))) hA f_X8_60 rfl (mo_k0 hm) (rg_up0 (by decide)) dX8_setting_2 ?_
  refine pr_aload_n hA dX8_setting_5 rfl ?_
  refine pr_iload_n hA dX8_setting_6 rfl ?_
  refine pr_i2l hA dX8_setting_7 ?_
  refine pr_lconst hA 0 dX8_setting_8 (by decide) ?_
  refine pr_ldc2 hA kK_X8_320 dX8_setting_9 ?_
  refine pr_callSi hA [.long (((nI c)).toInt64), .long (0 : Int64), .long (4 : Int64)] (c_inE (m := m) (σ := (pr_up σ 0 6 (0 : Int32))) (v := 1) (pr_hl hA) hm (in_c1 (B := 4) (by omega) (by decide) (by decide))) s_X8_80 rfl (by decide) (Nat.zero_le _) (Nat.zero_le _) rfl (Nat.le_of_ble_eq_true rfl) dX8_setting_12 ?_
  refine pr_if_ne hA 22 dX8_setting_15 (by decide) (fun c_15 => ?_) (fun c_15 => ?_)
  · refine pr_iconst hA (0) dX8_setting_22 (by decide) ?_
    refine pr_iconst hA (1) dX8_setting_23 (by decide) ?_
    refine pr_callVi hA [.int (0 : Int32), .int (1 : Int32)] (c_tiE (m := m) (σ := (pr_up σ 0 6 (0 : Int32))) (pr_hl hA) hm (ti_0 pr_upe)) v_X8_301 (mo_k0 hm) (by decide) rfl rfl rfl (by decide) (Nat.zero_le _) (Nat.zero_le _) rfl (Nat.le_of_ble_eq_true rfl) dX8_setting_24 ?_
    refine pr_if_eq hA 34 dX8_setting_27 (by decide) (fun c_27 => ?_) (fun c_27 => ?_)
    · refine pr_aload_n hA dX8_setting_34 rfl ?_
      refine pr_getR hA f_X8_9 rfl (mo_k0 hm) (mo_f0_0 hm) dX8_setting_35 ?_
      refine pr_iconst hA (nI 1) dX8_setting_38 (by decide) ?_
      refine pr_iload_n hA dX8_setting_39 rfl ?_
      refine pr_iadd hA dX8_setting_40 ?_
      rw [show ((nI 1) + (nI c)) = (nI (1 + c)) from (nI_add 1 c)]
      refine pr_ialdM (v := (σ 1 (1 + c))) hA (mo_k1 hm) (by omega) (by omega) ((rg_val (by decide)).trans (pr_upv (by decide))) dX8_setting_41 ?_
      exact pr_ireturn hA rfl rfl (Nat.zero_le _) (Nat.zero_le _) dX8_setting_42 ⟨rfl, rfl, rfl, rfl⟩
    · exact (c_27 (by decide)).elim
  · exact absurd c_15 (by decide)

theorem fr_mf_setting {σ : pr_I} {c : Nat} {o : Nat} (hms : ∀ m ∈ ([0] : List Nat), o ≠ m) : mf_setting σ c o = σ o := by
  unfold mf_setting
  simp only [List.mem_cons, List.not_mem_nil, or_false, forall_eq_or_imp, forall_eq] at hms
  rw [pr_up_ne (by omega)]

def m_lst (j : Nat) : Int32 := if j = 4 then 0 else if j = 5 then 0 else 1
def m_mst (j : Nat) : Int32 := if j = 1 then 500 else if j = 3 then 9 else 100
set_option maxRecDepth 100000 in
set_option maxHeartbeats 400000 in
theorem c_m_lst {g : pr_C} {l : Launch} (hl : l.stackTraces = false) {T : pr_T} {I : pr_I} {L : pr_L} {m : Nat} {σ : pr_I} {j : Nat} (h1 : 1 ≤ j) (h5 : j ≤ 5) : pr_M g l 1 0 0 mX8_least [.int (nI j)] T (rg_put I m 16 σ) L (pr_R (some (.int (m_lst j))) T (rg_put I m 16 σ) L) pr_no := by
  refine pr_ofG (by decide) rfl hl (Nat.le_of_ble_eq_true rfl) (fun X hA hX hXn hXt => ?_)
  subst hX
  show pr_G g X mX8_least.2.2.1 _ 0 0 0 [.int (nI j)] [] T (rg_put I m 16 σ) L
  refine pr_iload_n hA dX8_least_0 rfl ?_
  refine pr_iconst hA (nI 4) dX8_least_1 (by decide) ?_
  refine pr_icmp_eq hA 10 dX8_least_2 (by decide) (fun c_2 => ?_) (fun c_2 => ?_)
  · have n_2 : j = 4 := (nI_eq (by omega) (by omega)).mp c_2
    refine pr_iconst hA (0) dX8_least_10 (by decide) ?_
    refine pr_goto hA 15 dX8_least_11 (by decide) ?_
    exact pr_ireturn hA rfl rfl (Nat.zero_le _) (Nat.zero_le _) dX8_least_15 ⟨(by unfold m_lst; first | (subst n_2; rfl) | (subst n_7; rfl) | (rw [if_neg n_2, if_pos n_7]) | (rw [if_neg n_2, if_neg n_7]) | (rw [if_pos n_2])), rfl, rfl, rfl⟩
  · have n_2 : ¬ j = 4 := fun q => c_2 ((nI_eq (by omega) (by omega)).mpr q)
    refine pr_iload_n hA dX8_least_5 rfl ?_
    refine pr_iconst hA (nI 5) dX8_least_6 (by decide) ?_
    refine pr_icmp_ne hA 14 dX8_least_7 (by decide) (fun c_7 => ?_) (fun c_7 => ?_)
    · have n_7 : ¬ j = 5 := fun q => c_7 ((nI_eq (by omega) (by omega)).mpr q)
      refine pr_iconst hA (1) dX8_least_14 (by decide) ?_
      exact pr_ireturn hA rfl rfl (Nat.zero_le _) (Nat.zero_le _) dX8_least_15 ⟨(by unfold m_lst; first | (subst n_2; rfl) | (subst n_7; rfl) | (rw [if_neg n_2, if_pos n_7]) | (rw [if_neg n_2, if_neg n_7]) | (rw [if_pos n_2])), rfl, rfl, rfl⟩
    · have n_7 : j = 5 := (nI_eq (by omega) (by omega)).mp c_7
      refine pr_iconst hA (0) dX8_least_10 (by decide) ?_
      refine pr_goto hA 15 dX8_least_11 (by decide) ?_
      exact pr_ireturn hA rfl rfl (Nat.zero_le _) (Nat.zero_le _) dX8_least_15 ⟨(by unfold m_lst; first | (subst n_2; rfl) | (subst n_7; rfl) | (rw [if_neg n_2, if_pos n_7]) | (rw [if_neg n_2, if_neg n_7]) | (rw [if_pos n_2])), rfl, rfl, rfl⟩

set_option maxRecDepth 100000 in
set_option maxHeartbeats 400000 in
theorem c_m_mst {g : pr_C} {l : Launch} (hl : l.stackTraces = false) {T : pr_T} {I : pr_I} {L : pr_L} {m : Nat} {σ : pr_I} {j : Nat} (h1 : 1 ≤ j) (h5 : j ≤ 5) : pr_M g l 1 0 0 mX8_most [.int (nI j)] T (rg_put I m 16 σ) L (pr_R (some (.int (m_mst j))) T (rg_put I m 16 σ) L) pr_no := by
  refine pr_ofG (by decide) rfl hl (Nat.le_of_ble_eq_true rfl) (fun X hA hX hXn hXt => ?_)
  subst hX
  show pr_G g X mX8_most.2.2.1 _ 0 0 0 [.int (nI j)] [] T (rg_put I m 16 σ) L
  refine pr_iload_n hA dX8_most_0 rfl ?_
  rcases (by omega : j = 1 ∨ j = 2 ∨ j = 3 ∨ j = 4 ∨ j = 5) with rfl | rfl | rfl | rfl | rfl
  · refine pr_lookup (off := 27) hA 28 dX8_most_1 (by decide) (by decide) (by decide) ?_
    refine pr_sipush hA (500) dX8_most_28 (by decide) ?_
    exact pr_ireturn hA rfl rfl (Nat.zero_le _) (Nat.zero_le _) dX8_most_31 ⟨rfl, rfl, rfl, rfl⟩
  · refine pr_lookup (off := 34) hA 35 dX8_most_1 (by decide) (by decide) (by decide) ?_
    refine pr_bipush hA (100) dX8_most_35 (by decide) ?_
    exact pr_ireturn hA rfl rfl (Nat.zero_le _) (Nat.zero_le _) dX8_most_37 ⟨rfl, rfl, rfl, rfl⟩
  · refine pr_lookup (off := 31) hA 32 dX8_most_1 (by decide) (by decide) (by decide) ?_
    refine pr_bipush hA (9) dX8_most_32 (by decide) ?_
    exact pr_ireturn hA rfl rfl (Nat.zero_le _) (Nat.zero_le _) dX8_most_34 ⟨rfl, rfl, rfl, rfl⟩
  · refine pr_lookup (off := 34) hA 35 dX8_most_1 (by decide) (by decide) (by decide) ?_
    refine pr_bipush hA (100) dX8_most_35 (by decide) ?_
    exact pr_ireturn hA rfl rfl (Nat.zero_le _) (Nat.zero_le _) dX8_most_37 ⟨rfl, rfl, rfl, rfl⟩
  · refine pr_lookup (off := 34) hA 35 dX8_most_1 (by decide) (by decide) (by decide) ?_
    refine pr_bipush hA (100) dX8_most_35 (by decide) ?_
    exact pr_ireturn hA rfl rfl (Nat.zero_le _) (Nat.zero_le _) dX8_most_37 ⟨rfl, rfl, rfl, rfl⟩

noncomputable def mf_setSetting_r (σ : pr_I) (c : Nat) (z : Int32) : Int32 := (σ 1 (1 + c))
noncomputable def mf_setSetting (σ : pr_I) (c : Nat) (z : Int32) : pr_I := (pr_up (pr_up σ 0 6 (0 : Int32)) 1 (1 + c) z)
set_option maxRecDepth 100000 in
set_option maxHeartbeats 400000 in
theorem c_mf_setSetting {g : pr_C} {l : Launch} (hl : l.stackTraces = false) {T : pr_T} {I : pr_I} {L : pr_L} {m : Nat} {σ : pr_I} {c : Nat} {z : Int32} (hm : pr_Mo T m) (hI : mI σ) (hc : c ≤ 4) (hz1 : m_lst (1 + c) ≤ z) (hz2 : z ≤ m_mst (1 + c)) : pr_M g l 11 0 0 mX8_setSetting [.ref m, .int (nI c), .int z] T (rg_put I m 16 σ) L (pr_R (some (.int (mf_setSetting_r σ c z))) T (rg_put I m 16 (mf_setSetting σ c z)) L) pr_no := by
  refine pr_ofG (by decide) rfl hl (Nat.le_of_ble_eq_true rfl) (fun X hA hX hXn hXt => ?_)
  subst hX
  show pr_G g X mX8_setSetting.2.2.1 _ 0 0 0 [.ref m, .int (nI c), .int z, .null] [] T (rg_put I m 16 σ) L
  have hn5 := mI_n5 hI
  have hr4 := mI_nr4 hI
  have hl24 := mI_nl24 hI
  have hn12 := mI_nn12 hI
  refine pr_aload_n hA dX8_setSetting_0 rfl ?_
  refine pr_iconst hA (0) dX8_setSetting_1 (by decide) ?_
  refine pr_putE (I' := (rg_put I m 16 (pr_up σ 0 6 (0 : Int32)))) hA f_X8_60 rfl (mo_k0 hm) (rg_up0 (by decide)) dX8_setSetting_2 ?_
  refine pr_aload_n hA dX8_setSetting_5 rfl ?_
  refine pr_iload_n hA dX8_setSetting_6 rfl ?_
  refine pr_i2l hA dX8_setSetting_7 ?_
  refine pr_lconst hA 0 dX8_setSetting_8 (by decide) ?_
  refine pr_ldc2 hA kK_X8_320 dX8_setSetting_9 ?_
  refine pr_callSi hA [.long (((nI c)).toInt64), .long (0 : Int64), .long (4 : Int64)] (c_inE (m := m) (σ := (pr_up σ 0 6 (0 : Int32))) (v := 1) (pr_hl hA) hm (in_c1 (B := 4) (by omega) (by decide) (by decide))) s_X8_80 rfl (by decide) (Nat.zero_le _) (Nat.zero_le _) rfl (Nat.le_of_ble_eq_true rfl) dX8_setSetting_12 ?_
  refine pr_if_eq hA 40 dX8_setSetting_15 (by decide) (fun c_15 => ?_) (fun c_15 => ?_)
  · exact absurd c_15 (by decide)
  · refine pr_iload_n hA dX8_setSetting_18 rfl ?_
    refine pr_i2l hA dX8_setSetting_19 ?_
    refine pr_iconst hA (nI 1) dX8_setSetting_20 (by decide) ?_
    refine pr_iload_n hA dX8_setSetting_21 rfl ?_
    refine pr_iadd hA dX8_setSetting_22 ?_
    rw [show ((nI 1) + (nI c)) = (nI (1 + c)) from (nI_add 1 c)]
    refine pr_callSi hA [.int (nI (1 + c))] (c_m_lst (m := m) (σ := (pr_up σ 0 6 (0 : Int32))) (j := (1 + c)) (pr_hl hA) (by omega) (by omega)) s_X8_154 rfl (by decide) (Nat.zero_le _) (Nat.zero_le _) rfl (Nat.le_of_ble_eq_true rfl) dX8_setSetting_23 ?_
    refine pr_i2l hA dX8_setSetting_26 ?_
    refine pr_iconst hA (nI 1) dX8_setSetting_27 (by decide) ?_
    refine pr_iload_n hA dX8_setSetting_28 rfl ?_
    refine pr_iadd hA dX8_setSetting_29 ?_
    rw [show ((nI 1) + (nI c)) = (nI (1 + c)) from (nI_add 1 c)]
    refine pr_callSi hA [.int (nI (1 + c))] (c_m_mst (m := m) (σ := (pr_up σ 0 6 (0 : Int32))) (j := (1 + c)) (pr_hl hA) (by omega) (by omega)) s_X8_157 rfl (by decide) (Nat.zero_le _) (Nat.zero_le _) rfl (Nat.le_of_ble_eq_true rfl) dX8_setSetting_30 ?_
    refine pr_i2l hA dX8_setSetting_33 ?_
    refine pr_callSi hA [.long ((z).toInt64), .long (((m_lst (1 + c))).toInt64), .long (((m_mst (1 + c))).toInt64)] (c_inE (m := m) (σ := (pr_up σ 0 6 (0 : Int32))) (v := 1) (pr_hl hA) hm (in_1 (i64_le hz1) (i64_le hz2))) s_X8_80 rfl (by decide) (Nat.zero_le _) (Nat.zero_le _) rfl (Nat.le_of_ble_eq_true rfl) dX8_setSetting_34 ?_
    refine pr_if_ne hA 44 dX8_setSetting_37 (by decide) (fun c_37 => ?_) (fun c_37 => ?_)
    · refine pr_iconst hA (0) dX8_setSetting_44 (by decide) ?_
      refine pr_iconst hA (1) dX8_setSetting_45 (by decide) ?_
      refine pr_callVi hA [.int (0 : Int32), .int (1 : Int32)] (c_tiE (m := m) (σ := (pr_up σ 0 6 (0 : Int32))) (pr_hl hA) hm (ti_0 pr_upe)) v_X8_301 (mo_k0 hm) (by decide) rfl rfl rfl (by decide) (Nat.zero_le _) (Nat.zero_le _) rfl (Nat.le_of_ble_eq_true rfl) dX8_setSetting_46 ?_
      refine pr_if_eq hA 54 dX8_setSetting_49 (by decide) (fun c_49 => ?_) (fun c_49 => ?_)
      · refine pr_aload_n hA dX8_setSetting_54 rfl ?_
        refine pr_getR hA f_X8_9 rfl (mo_k0 hm) (mo_f0_0 hm) dX8_setSetting_55 ?_
        refine pr_iconst hA (nI 1) dX8_setSetting_58 (by decide) ?_
        refine pr_iload_n hA dX8_setSetting_59 rfl ?_
        refine pr_iadd hA dX8_setSetting_60 ?_
        rw [show ((nI 1) + (nI c)) = (nI (1 + c)) from (nI_add 1 c)]
        refine pr_ialdM (v := (σ 1 (1 + c))) hA (mo_k1 hm) (by omega) (by omega) ((rg_val (by decide)).trans (pr_upv (by decide))) dX8_setSetting_61 ?_
        refine pr_istore_n (ls' := [_, _, _, _]) hA dX8_setSetting_62 (by decide) rfl ?_
        refine pr_aload_n hA dX8_setSetting_63 rfl ?_
        refine pr_getR hA f_X8_9 rfl (mo_k0 hm) (mo_f0_0 hm) dX8_setSetting_64 ?_
        refine pr_iconst hA (nI 1) dX8_setSetting_67 (by decide) ?_
        refine pr_iload_n hA dX8_setSetting_68 rfl ?_
        refine pr_iadd hA dX8_setSetting_69 ?_
        rw [show ((nI 1) + (nI c)) = (nI (1 + c)) from (nI_add 1 c)]
        refine pr_iload_n hA dX8_setSetting_70 rfl ?_
        refine pr_iastM (I' := (rg_put I m 16 (pr_up (pr_up σ 0 6 (0 : Int32)) 1 (1 + c) z))) hA (mo_k1 hm) (by omega) (by omega) (rg_up (by decide)) dX8_setSetting_71 ?_
        refine pr_iload_n hA dX8_setSetting_72 rfl ?_
        exact pr_ireturn hA rfl rfl (Nat.zero_le _) (Nat.zero_le _) dX8_setSetting_73 ⟨rfl, rfl, rfl, rfl⟩
      · exact (c_49 (by decide)).elim
    · exact absurd c_37 (by decide)

theorem fr_mf_setSetting {σ : pr_I} {c : Nat} {z : Int32} {o : Nat} (hms : ∀ m ∈ ([0, 1] : List Nat), o ≠ m) : mf_setSetting σ c z o = σ o := by
  unfold mf_setSetting
  simp only [List.mem_cons, List.not_mem_nil, or_false, forall_eq_or_imp, forall_eq] at hms
  rw [pr_up_ne (by omega), pr_up_ne (by omega)]

noncomputable def mf_setCapacity_r (σ : pr_I) (k : Nat) (z : Int32) : Int32 := (if (m_prom_r (pr_up σ 0 6 (0 : Int32)) (mtn σ) (nI k)) ≤ z then (σ 1 (96 + 7 * k + 2)) else ((-3) : Int32))
noncomputable def mf_setCapacity (σ : pr_I) (k : Nat) (z : Int32) : pr_I := (if (m_prom_r (pr_up σ 0 6 (0 : Int32)) (mtn σ) (nI k)) ≤ z then (pr_up (pr_up σ 0 6 (0 : Int32)) 1 (96 + 7 * k + 2) z) else (pr_up σ 0 6 (0 : Int32)))
set_option maxRecDepth 100000 in
set_option maxHeartbeats 400000 in
theorem c_mf_setCapacity {g : pr_C} {l : Launch} (hl : l.stackTraces = false) {T : pr_T} {I : pr_I} {L : pr_L} {m : Nat} {σ : pr_I} {k : Nat} {z : Int32} (hm : pr_Mo T m) (hI : mI σ) (hk : k < mln σ) (hz1 : 0 ≤ z) (hz2 : z ≤ 1000) : pr_M g l 11 0 0 mX8_setCapacity [.ref m, .int (nI k), .int z] T (rg_put I m 16 σ) L (pr_R (some (.int (mf_setCapacity_r σ k z))) T (rg_put I m 16 (mf_setCapacity σ k z)) L) pr_no := by
  refine pr_ofG (by decide) rfl hl (Nat.le_of_ble_eq_true rfl) (fun X hA hX hXn hXt => ?_)
  subst hX
  show pr_G g X mX8_setCapacity.2.2.1 _ 0 0 0 [.ref m, .int (nI k), .int z, .null] [] T (rg_put I m 16 σ) L
  have hn5 := mI_n5 hI
  have hr4 := mI_nr4 hI
  have hl24 := mI_nl24 hI
  have hn12 := mI_nn12 hI
  refine pr_aload_n hA dX8_setCapacity_0 rfl ?_
  refine pr_iload_n hA dX8_setCapacity_1 rfl ?_
  have hv2 : mI σ := hI
  refine pr_callVi hA [.int (nI k)] (c_nl_ok (m := m) (σ := σ) (pr_hl hA) hm hv2 (by omega)) v_X8_315 (mo_k0 hm) (by decide) rfl rfl rfl (by decide) (Nat.zero_le _) (Nat.zero_le _) rfl (Nat.le_of_ble_eq_true rfl) dX8_setCapacity_2 ?_
  refine pr_if_ne hA 33 dX8_setCapacity_5 (by decide) (fun c_5 => ?_) (fun c_5 => ?_)
  · exact (c_5 (by decide)).elim
  · refine pr_aload_n hA dX8_setCapacity_8 rfl ?_
    refine pr_iload_n hA dX8_setCapacity_9 rfl ?_
    refine pr_i2l hA dX8_setCapacity_10 ?_
    refine pr_lconst hA 0 dX8_setCapacity_11 (by decide) ?_
    refine pr_ldc2 hA kK_X8_299 dX8_setCapacity_12 ?_
    refine pr_callSi hA [.long ((z).toInt64), .long (0 : Int64), .long (1000 : Int64)] (c_inE (m := m) (σ := (pr_up σ 0 6 (0 : Int32))) (v := 1) (pr_hl hA) hm (in_z1 hz1 hz2 (by decide) (by decide))) s_X8_80 rfl (by decide) (Nat.zero_le _) (Nat.zero_le _) rfl (Nat.le_of_ble_eq_true rfl) dX8_setCapacity_15 ?_
    refine pr_if_ne hA 25 dX8_setCapacity_18 (by decide) (fun c_18 => ?_) (fun c_18 => ?_)
    · refine pr_iconst hA (0) dX8_setCapacity_25 (by decide) ?_
      refine pr_iconst hA (2) dX8_setCapacity_26 (by decide) ?_
      refine pr_callVi hA [.int (0 : Int32), .int (2 : Int32)] (c_tiE (m := m) (σ := (pr_up σ 0 6 (0 : Int32))) (pr_hl hA) hm (ti_0 pr_upe)) v_X8_301 (mo_k0 hm) (by decide) rfl rfl rfl (by decide) (Nat.zero_le _) (Nat.zero_le _) rfl (Nat.le_of_ble_eq_true rfl) dX8_setCapacity_27 ?_
      refine pr_if_eq hA 35 dX8_setCapacity_30 (by decide) (fun c_30 => ?_) (fun c_30 => ?_)
      · refine pr_aload_n hA dX8_setCapacity_35 rfl ?_
        refine pr_iload_n hA dX8_setCapacity_36 rfl ?_
        refine pr_callVi hA [.int (nI k)] (c_m_prom (m := m) (σ := (pr_up σ 0 6 (0 : Int32))) (n := (mtn σ)) (x := (nI k)) (pr_hl hA) hm ((pr_upv (by decide)).trans (mI_n hI)) (mI_n5 hI)) v_X8_206 (mo_k0 hm) (by decide) rfl rfl rfl (by decide) (Nat.zero_le _) (Nat.zero_le _) rfl (Nat.le_of_ble_eq_true rfl) dX8_setCapacity_37 ?_
        refine pr_iload_n hA dX8_setCapacity_40 rfl ?_
        refine pr_icmp_le hA 47 dX8_setCapacity_41 (by decide) (fun c_41 => ?_) (fun c_41 => ?_)
        · refine pr_aload_n hA dX8_setCapacity_47 rfl ?_
          refine pr_iload_n hA dX8_setCapacity_48 rfl ?_
          refine pr_iconst hA (2) dX8_setCapacity_49 (by decide) ?_
          refine pr_callVi hA [.int (nI k), .int (2 : Int32)] (c_m_link (m := m) (k := k) (c := 2) (σ := (pr_up σ 0 6 (0 : Int32))) (pr_hl hA) hm (by omega) (by omega)) v_X8_204 (mo_k0 hm) (by decide) rfl rfl rfl (by decide) (Nat.zero_le _) (Nat.zero_le _) rfl (Nat.le_of_ble_eq_true rfl) dX8_setCapacity_50 ?_
          rw [show ((pr_up σ 0 6 (0 : Int32)) 1 (96 + 7 * k + 2)) = (σ 1 (96 + 7 * k + 2)) from (pr_upv (by decide))]
          refine pr_istore_n (ls' := [_, _, _, _]) hA dX8_setCapacity_53 (by decide) rfl ?_
          refine pr_aload_n hA dX8_setCapacity_54 rfl ?_
          refine pr_getR hA f_X8_9 rfl (mo_k0 hm) (mo_f0_0 hm) dX8_setCapacity_55 ?_
          refine pr_bipush hA (nI 96) dX8_setCapacity_58 (by decide) ?_
          refine pr_bipush hA (nI 7) dX8_setCapacity_60 (by decide) ?_
          refine pr_iload_n hA dX8_setCapacity_62 rfl ?_
          refine pr_imul hA dX8_setCapacity_63 ?_
          refine pr_iadd hA dX8_setCapacity_64 ?_
          refine pr_iconst hA (nI 2) dX8_setCapacity_65 (by decide) ?_
          refine pr_iadd hA dX8_setCapacity_66 ?_
          rw [show (((nI 96) + ((nI 7) * (nI k))) + (nI 2)) = (nI (96 + 7 * k + 2)) from (nI_lin 96 7 k 2)]
          refine pr_iload_n hA dX8_setCapacity_67 rfl ?_
          refine pr_iastM (I' := (rg_put I m 16 (pr_up (pr_up σ 0 6 (0 : Int32)) 1 (96 + 7 * k + 2) z))) hA (mo_k1 hm) (by omega) (by omega) (rg_up (by decide)) dX8_setCapacity_68 ?_
          refine pr_iload_n hA dX8_setCapacity_69 rfl ?_
          exact pr_ireturn hA rfl rfl (Nat.zero_le _) (Nat.zero_le _) dX8_setCapacity_70 ⟨(by simp only [mf_setCapacity_r, if_pos c_41]), rfl, (by simp only [mf_setCapacity, if_pos c_41]), rfl⟩
        · refine pr_bipush hA ((-3)) dX8_setCapacity_44 (by decide) ?_
          exact pr_ireturn hA rfl rfl (Nat.zero_le _) (Nat.zero_le _) dX8_setCapacity_46 ⟨(by simp only [mf_setCapacity_r, if_neg c_41]), rfl, (by simp only [mf_setCapacity, if_neg c_41]), rfl⟩
      · exact (c_30 (by decide)).elim
    · exact absurd c_18 (by decide)

theorem fr_mf_setCapacity {σ : pr_I} {k : Nat} {z : Int32} {o : Nat} (hms : ∀ m ∈ ([0, 1] : List Nat), o ≠ m) : mf_setCapacity σ k z o = σ o := by
  unfold mf_setCapacity
  simp only [List.mem_cons, List.not_mem_nil, or_false, forall_eq_or_imp, forall_eq] at hms
  by_cases c_41 : (m_prom_r (pr_up σ 0 6 (0 : Int32)) (mtn σ) (nI k)) ≤ z
  · refine (congrFun (if_pos c_41) o).trans ?_
    rw [pr_up_ne (by omega), pr_up_ne (by omega)]
  · refine (congrFun (if_neg c_41) o).trans ?_
    rw [pr_up_ne (by omega)]

theorem fw_mf_setCapacity {σ : pr_I} {k : Nat} {z : Int32} {j0 : Nat} (hj : j0 < 12) (hmw : ∀ m ∈ ([] : List Nat), j0 ≠ m) : mf_setCapacity σ k z 1 j0 = σ 1 j0 := by
  unfold mf_setCapacity
  by_cases c_41 : (m_prom_r (pr_up σ 0 6 (0 : Int32)) (mtn σ) (nI k)) ≤ z
  · rw [if_pos c_41]
    exact ((pr_upk (by omega)).trans (pr_upv (by decide)))
  · rw [if_neg c_41]
    exact (pr_upv (by decide))
def m_dn_ok (σ : pr_I) (lk : Nat) : Prop := ∀ k, k < mrn σ → ∀ j, j < mtn (m_dn_it19 σ lk k).1 → ((m_br_it2 (m_dn_it19 σ lk k).1 k j) 1 (264 + 28 * k + 3)).toInt64 ≠ 0
noncomputable def mf_takeDown_r (σ : pr_I) (k : Nat) : Int32 := (if (σ 1 (96 + 7 * k + 5)) = 0 then ((-3) : Int32) else (m_dn_r (pr_up σ 0 6 (0 : Int32)) k))
noncomputable def mf_takeDown (σ : pr_I) (k : Nat) : pr_I := (if (σ 1 (96 + 7 * k + 5)) = 0 then (pr_up σ 0 6 (0 : Int32)) else (m_dn (pr_up σ 0 6 (0 : Int32)) k))
set_option maxRecDepth 100000 in
set_option maxHeartbeats 400000 in
theorem c_mf_takeDown {g : pr_C} {l : Launch} (hl : l.stackTraces = false) {T : pr_T} {I : pr_I} {L : pr_L} {m : Nat} {σ : pr_I} {k : Nat} (hm : pr_Mo T m) (hI : mI σ) (hk : k < mln σ) (hok : m_dn_ok (pr_up σ 0 6 (0 : Int32)) k) : pr_M g l 11 0 0 mX8_takeDown [.ref m, .int (nI k)] T (rg_put I m 16 σ) L (pr_R (some (.int (mf_takeDown_r σ k))) T (rg_put I m 16 (mf_takeDown σ k)) L) pr_no := by
  refine pr_ofG (by decide) rfl hl (Nat.le_of_ble_eq_true rfl) (fun X hA hX hXn hXt => ?_)
  subst hX
  show pr_G g X mX8_takeDown.2.2.1 _ 0 0 0 [.ref m, .int (nI k)] [] T (rg_put I m 16 σ) L
  have hn5 := mI_n5 hI
  have hr4 := mI_nr4 hI
  have hl24 := mI_nl24 hI
  have hn12 := mI_nn12 hI
  refine pr_aload_n hA dX8_takeDown_0 rfl ?_
  refine pr_iload_n hA dX8_takeDown_1 rfl ?_
  have hv2 : mI σ := hI
  refine pr_callVi hA [.int (nI k)] (c_nl_ok (m := m) (σ := σ) (pr_hl hA) hm hv2 (by omega)) v_X8_315 (mo_k0 hm) (by decide) rfl rfl rfl (by decide) (Nat.zero_le _) (Nat.zero_le _) rfl (Nat.le_of_ble_eq_true rfl) dX8_takeDown_2 ?_
  refine pr_if_eq hA 10 dX8_takeDown_5 (by decide) (fun c_5 => ?_) (fun c_5 => ?_)
  · refine pr_aload_n hA dX8_takeDown_10 rfl ?_
    refine pr_iload_n hA dX8_takeDown_11 rfl ?_
    refine pr_iconst hA (5) dX8_takeDown_12 (by decide) ?_
    refine pr_callVi hA [.int (nI k), .int (5 : Int32)] (c_m_link (m := m) (k := k) (c := 5) (σ := (pr_up σ 0 6 (0 : Int32))) (pr_hl hA) hm (by omega) (by omega)) v_X8_204 (mo_k0 hm) (by decide) rfl rfl rfl (by decide) (Nat.zero_le _) (Nat.zero_le _) rfl (Nat.le_of_ble_eq_true rfl) dX8_takeDown_13 ?_
    rw [show ((pr_up σ 0 6 (0 : Int32)) 1 (96 + 7 * k + 5)) = (σ 1 (96 + 7 * k + 5)) from (pr_upv (by decide))]
    refine pr_if_ne hA 24 dX8_takeDown_16 (by decide) (fun c_16 => ?_) (fun c_16 => ?_)
    · refine pr_aload_n hA dX8_takeDown_24 rfl ?_
      refine pr_iload_n hA dX8_takeDown_25 rfl ?_
      have hv26 : mI (pr_up σ 0 6 (0 : Int32)) := (mI.upn hI rfl)
      refine pr_callVi hA [.int (nI k)] (c_m_dn (m := m) (σ := (pr_up σ 0 6 (0 : Int32))) (lk := k) (pr_hl hA) hm hv26 (by first | omega | assumption) hok) v_X8_334 (mo_k0 hm) (by decide) rfl rfl rfl (by decide) (Nat.zero_le _) (Nat.zero_le _) rfl (Nat.le_of_ble_eq_true rfl) dX8_takeDown_26 ?_
      exact pr_ireturn hA rfl rfl (Nat.zero_le _) (Nat.zero_le _) dX8_takeDown_29 ⟨(by simp only [mf_takeDown_r, if_neg c_16]), rfl, (by simp only [mf_takeDown, if_neg c_16]), rfl⟩
    · refine pr_bipush hA ((-3)) dX8_takeDown_19 (by decide) ?_
      refine pr_goto hA 29 dX8_takeDown_21 (by decide) ?_
      exact pr_ireturn hA rfl rfl (Nat.zero_le _) (Nat.zero_le _) dX8_takeDown_29 ⟨(by simp only [mf_takeDown_r, if_pos c_16]), rfl, (by simp only [mf_takeDown, if_pos c_16]), rfl⟩
  · exact (c_5 (by decide)).elim

theorem fr_mf_takeDown {σ : pr_I} {k : Nat} {o : Nat} (hms : ∀ m ∈ ([0, 1] : List Nat), o ≠ m) : mf_takeDown σ k o = σ o := by
  unfold mf_takeDown
  simp only [List.mem_cons, List.not_mem_nil, or_false, forall_eq_or_imp, forall_eq] at hms
  by_cases c_16 : (σ 1 (96 + 7 * k + 5)) = 0
  · refine (congrFun (if_pos c_16) o).trans ?_
    rw [pr_up_ne (by omega)]
  · refine (congrFun (if_neg c_16) o).trans ?_
    rw [fr_m_dn (by simp only [List.mem_cons, List.not_mem_nil, or_false, forall_eq_or_imp, forall_eq]; omega), pr_up_ne (by omega)]

theorem fw_mf_takeDown {σ : pr_I} {k : Nat} {j0 : Nat} (hj : j0 < 12) (hmw : ∀ m ∈ ([] : List Nat), j0 ≠ m) : mf_takeDown σ k 1 j0 = σ 1 j0 := by
  unfold mf_takeDown
  by_cases c_16 : (σ 1 (96 + 7 * k + 5)) = 0
  · rw [if_pos c_16]
    exact (pr_upv (by decide))
  · rw [if_neg c_16]
    exact ((fw_m_dn hj (fun m hm => by cases hm)).trans (pr_upv (by decide)))
noncomputable def mf_bringUp_r (σ : pr_I) (k : Nat) : Int32 := (if (σ 1 (96 + 7 * k + 5)) = (1 : Int32) then ((-3) : Int32) else (σ 1 0))
noncomputable def mf_bringUp (σ : pr_I) (k : Nat) : pr_I := (if (σ 1 (96 + 7 * k + 5)) = (1 : Int32) then (pr_up σ 0 6 (0 : Int32)) else (pr_up (pr_up σ 0 6 (0 : Int32)) 1 (96 + 7 * k + 5) (1 : Int32)))
set_option maxRecDepth 100000 in
set_option maxHeartbeats 400000 in
theorem c_mf_bringUp {g : pr_C} {l : Launch} (hl : l.stackTraces = false) {T : pr_T} {I : pr_I} {L : pr_L} {m : Nat} {σ : pr_I} {k : Nat} (hm : pr_Mo T m) (hI : mI σ) (hk : k < mln σ) : pr_M g l 11 0 0 mX8_bringUp [.ref m, .int (nI k)] T (rg_put I m 16 σ) L (pr_R (some (.int (mf_bringUp_r σ k))) T (rg_put I m 16 (mf_bringUp σ k)) L) pr_no := by
  refine pr_ofG (by decide) rfl hl (Nat.le_of_ble_eq_true rfl) (fun X hA hX hXn hXt => ?_)
  subst hX
  show pr_G g X mX8_bringUp.2.2.1 _ 0 0 0 [.ref m, .int (nI k)] [] T (rg_put I m 16 σ) L
  have hn5 := mI_n5 hI
  have hr4 := mI_nr4 hI
  have hl24 := mI_nl24 hI
  have hn12 := mI_nn12 hI
  refine pr_aload_n hA dX8_bringUp_0 rfl ?_
  refine pr_iload_n hA dX8_bringUp_1 rfl ?_
  have hv2 : mI σ := hI
  refine pr_callVi hA [.int (nI k)] (c_nl_ok (m := m) (σ := σ) (pr_hl hA) hm hv2 (by omega)) v_X8_315 (mo_k0 hm) (by decide) rfl rfl rfl (by decide) (Nat.zero_le _) (Nat.zero_le _) rfl (Nat.le_of_ble_eq_true rfl) dX8_bringUp_2 ?_
  refine pr_if_eq hA 10 dX8_bringUp_5 (by decide) (fun c_5 => ?_) (fun c_5 => ?_)
  · refine pr_aload_n hA dX8_bringUp_10 rfl ?_
    refine pr_iload_n hA dX8_bringUp_11 rfl ?_
    refine pr_iconst hA (5) dX8_bringUp_12 (by decide) ?_
    refine pr_callVi hA [.int (nI k), .int (5 : Int32)] (c_m_link (m := m) (k := k) (c := 5) (σ := (pr_up σ 0 6 (0 : Int32))) (pr_hl hA) hm (by omega) (by omega)) v_X8_204 (mo_k0 hm) (by decide) rfl rfl rfl (by decide) (Nat.zero_le _) (Nat.zero_le _) rfl (Nat.le_of_ble_eq_true rfl) dX8_bringUp_13 ?_
    rw [show ((pr_up σ 0 6 (0 : Int32)) 1 (96 + 7 * k + 5)) = (σ 1 (96 + 7 * k + 5)) from (pr_upv (by decide))]
    refine pr_iconst hA (1) dX8_bringUp_16 (by decide) ?_
    refine pr_icmp_ne hA 23 dX8_bringUp_17 (by decide) (fun c_17 => ?_) (fun c_17 => ?_)
    · refine pr_aload_n hA dX8_bringUp_23 rfl ?_
      refine pr_getR hA f_X8_9 rfl (mo_k0 hm) (mo_f0_0 hm) dX8_bringUp_24 ?_
      refine pr_bipush hA (nI 96) dX8_bringUp_27 (by decide) ?_
      refine pr_bipush hA (nI 7) dX8_bringUp_29 (by decide) ?_
      refine pr_iload_n hA dX8_bringUp_31 rfl ?_
      refine pr_imul hA dX8_bringUp_32 ?_
      refine pr_iadd hA dX8_bringUp_33 ?_
      refine pr_iconst hA (nI 5) dX8_bringUp_34 (by decide) ?_
      refine pr_iadd hA dX8_bringUp_35 ?_
      rw [show (((nI 96) + ((nI 7) * (nI k))) + (nI 5)) = (nI (96 + 7 * k + 5)) from (nI_lin 96 7 k 5)]
      refine pr_iconst hA (1) dX8_bringUp_36 (by decide) ?_
      refine pr_iastM (I' := (rg_put I m 16 (pr_up (pr_up σ 0 6 (0 : Int32)) 1 (96 + 7 * k + 5) (1 : Int32)))) hA (mo_k1 hm) (by omega) (by omega) (rg_up (by decide)) dX8_bringUp_37 ?_
      refine pr_aload_n hA dX8_bringUp_38 rfl ?_
      refine pr_getR hA f_X8_9 rfl (mo_k0 hm) (mo_f0_0 hm) dX8_bringUp_39 ?_
      refine pr_iconst hA (nI 0) dX8_bringUp_42 (by decide) ?_
      refine pr_ialdM (v := (σ 1 0)) hA (mo_k1 hm) (by omega) (by omega) ((rg_val (by decide)).trans ((pr_upk (by omega)).trans (pr_upv (by decide)))) dX8_bringUp_43 ?_
      exact pr_ireturn hA rfl rfl (Nat.zero_le _) (Nat.zero_le _) dX8_bringUp_44 ⟨(by simp only [mf_bringUp_r, if_neg c_17]), rfl, (by simp only [mf_bringUp, if_neg c_17]), rfl⟩
    · refine pr_bipush hA ((-3)) dX8_bringUp_20 (by decide) ?_
      exact pr_ireturn hA rfl rfl (Nat.zero_le _) (Nat.zero_le _) dX8_bringUp_22 ⟨(by simp only [mf_bringUp_r, if_pos c_17]), rfl, (by simp only [mf_bringUp, if_pos c_17]), rfl⟩
  · exact (c_5 (by decide)).elim

theorem fr_mf_bringUp {σ : pr_I} {k : Nat} {o : Nat} (hms : ∀ m ∈ ([0, 1] : List Nat), o ≠ m) : mf_bringUp σ k o = σ o := by
  unfold mf_bringUp
  simp only [List.mem_cons, List.not_mem_nil, or_false, forall_eq_or_imp, forall_eq] at hms
  by_cases c_17 : (σ 1 (96 + 7 * k + 5)) = (1 : Int32)
  · refine (congrFun (if_pos c_17) o).trans ?_
    rw [pr_up_ne (by omega)]
  · refine (congrFun (if_neg c_17) o).trans ?_
    rw [pr_up_ne (by omega), pr_up_ne (by omega)]

theorem fw_mf_bringUp {σ : pr_I} {k : Nat} {j0 : Nat} (hj : j0 < 12) (hmw : ∀ m ∈ ([] : List Nat), j0 ≠ m) : mf_bringUp σ k 1 j0 = σ 1 j0 := by
  unfold mf_bringUp
  by_cases c_17 : (σ 1 (96 + 7 * k + 5)) = (1 : Int32)
  · rw [if_pos c_17]
    exact (pr_upv (by decide))
  · rw [if_neg c_17]
    exact ((pr_upk (by omega)).trans (pr_upv (by decide)))
noncomputable def mf_request_r (σ : pr_I) (s : Nat) (t : Nat) (u : Int32) (q : Int32) : Int32 := (if (nI (mrn σ)) = (nI 40) then ((-2) : Int32) else (m_mk_r (pr_up σ 0 6 (0 : Int32)) (nI s) (nI t) u q))
noncomputable def mf_request (σ : pr_I) (s : Nat) (t : Nat) (u : Int32) (q : Int32) : pr_I := (if (nI (mrn σ)) = (nI 40) then (pr_up σ 0 6 (0 : Int32)) else (m_mk (pr_up σ 0 6 (0 : Int32)) (nI s) (nI t) u q))
set_option maxRecDepth 100000 in
set_option maxHeartbeats 400000 in
theorem c_mf_request {g : pr_C} {l : Launch} (hl : l.stackTraces = false) {T : pr_T} {I : pr_I} {L : pr_L} {m : Nat} {σ : pr_I} {s : Nat} {t : Nat} {u : Int32} {q : Int32} (hm : pr_Mo T m) (hI : mI σ) (hs : s < mnn σ) (ht : t < mnn σ) (hst : s ≠ t) (hu1 : 1 ≤ u) (hu2 : u ≤ 1000) (hq1 : 1 ≤ q) (hq2 : q ≤ 10000) (hok : mrn σ < 40 → m_mk_ok (pr_up σ 0 6 (0 : Int32)) (nI s) (nI t) u q) : pr_M g l 11 0 0 mX8_request [.ref m, .int (nI s), .int (nI t), .int u, .int q] T (rg_put I m 16 σ) L (pr_R (some (.int (mf_request_r σ s t u q))) T (rg_put I m 16 (mf_request σ s t u q)) L) pr_no := by
  refine pr_ofG (by decide) rfl hl (Nat.le_of_ble_eq_true rfl) (fun X hA hX hXn hXt => ?_)
  subst hX
  show pr_G g X mX8_request.2.2.1 _ 0 0 0 [.ref m, .int (nI s), .int (nI t), .int u, .int q] [] T (rg_put I m 16 σ) L
  have hn5 := mI_n5 hI
  have hr4 := mI_nr4 hI
  have hl24 := mI_nl24 hI
  have hn12 := mI_nn12 hI
  refine pr_aload_n hA dX8_request_0 rfl ?_
  refine pr_iload_n hA dX8_request_1 rfl ?_
  refine pr_iload_n hA dX8_request_2 rfl ?_
  have hv3 : mI σ := hI
  refine pr_callVi hA [.int (nI s), .int (nI t)] (c_nn_ok (m := m) (σ := σ) (pr_hl hA) hm hv3 (by omega) (by omega) (by omega)) v_X8_337 (mo_k0 hm) (by decide) rfl rfl rfl (by decide) (Nat.zero_le _) (Nat.zero_le _) rfl (Nat.le_of_ble_eq_true rfl) dX8_request_3 ?_
  refine pr_if_ne hA 47 dX8_request_6 (by decide) (fun c_6 => ?_) (fun c_6 => ?_)
  · exact (c_6 (by decide)).elim
  · refine pr_aload_n hA dX8_request_9 rfl ?_
    refine pr_iload_n hA dX8_request_10 rfl ?_
    refine pr_i2l hA dX8_request_11 ?_
    refine pr_lconst hA 1 dX8_request_12 (by decide) ?_
    refine pr_ldc2 hA kK_X8_299 dX8_request_13 ?_
    refine pr_callSi hA [.long ((u).toInt64), .long (1 : Int64), .long (1000 : Int64)] (c_inE (m := m) (σ := (pr_up σ 0 6 (0 : Int32))) (v := 1) (pr_hl hA) hm (in_z1 hu1 hu2 (by decide) (by decide))) s_X8_80 rfl (by decide) (Nat.zero_le _) (Nat.zero_le _) rfl (Nat.le_of_ble_eq_true rfl) dX8_request_16 ?_
    refine pr_if_eq hA 35 dX8_request_19 (by decide) (fun c_19 => ?_) (fun c_19 => ?_)
    · exact absurd c_19 (by decide)
    · refine pr_iload hA dX8_request_22 rfl ?_
      refine pr_i2l hA dX8_request_24 ?_
      refine pr_lconst hA 1 dX8_request_25 (by decide) ?_
      refine pr_ldc2 hA kK_X8_340 dX8_request_26 ?_
      refine pr_callSi hA [.long ((q).toInt64), .long (1 : Int64), .long (10000 : Int64)] (c_inE (m := m) (σ := (pr_up σ 0 6 (0 : Int32))) (v := 1) (pr_hl hA) hm (in_z1 hq1 hq2 (by decide) (by decide))) s_X8_80 rfl (by decide) (Nat.zero_le _) (Nat.zero_le _) rfl (Nat.le_of_ble_eq_true rfl) dX8_request_29 ?_
      refine pr_if_ne hA 39 dX8_request_32 (by decide) (fun c_32 => ?_) (fun c_32 => ?_)
      · refine pr_iconst hA (0) dX8_request_39 (by decide) ?_
        refine pr_iconst hA (2) dX8_request_40 (by decide) ?_
        refine pr_callVi hA [.int (0 : Int32), .int (2 : Int32)] (c_tiE (m := m) (σ := (pr_up σ 0 6 (0 : Int32))) (pr_hl hA) hm (ti_0 pr_upe)) v_X8_301 (mo_k0 hm) (by decide) rfl rfl rfl (by decide) (Nat.zero_le _) (Nat.zero_le _) rfl (Nat.le_of_ble_eq_true rfl) dX8_request_41 ?_
        refine pr_if_eq hA 49 dX8_request_44 (by decide) (fun c_44 => ?_) (fun c_44 => ?_)
        · refine pr_aload_n hA dX8_request_49 rfl ?_
          refine pr_getR hA f_X8_9 rfl (mo_k0 hm) (mo_f0_0 hm) dX8_request_50 ?_
          refine pr_bipush hA (nI 8) dX8_request_53 (by decide) ?_
          refine pr_ialdM (v := (nI (mrn σ))) hA (mo_k1 hm) (by omega) (by omega) ((rg_val (by decide)).trans ((pr_upv (by decide)).trans (mI_nr hI))) dX8_request_55 ?_
          refine pr_bipush hA (nI 40) dX8_request_56 (by decide) ?_
          refine pr_icmp_ne hA 66 dX8_request_58 (by decide) (fun c_58 => ?_) (fun c_58 => ?_)
          · have n_58 : ¬ (mrn σ) = 40 := fun q => c_58 ((nI_eq (by omega) (by omega)).mpr q)
            have h40 : mrn σ < 40 := by omega
            refine pr_aload_n hA dX8_request_66 rfl ?_
            refine pr_iload_n hA dX8_request_67 rfl ?_
            refine pr_iload_n hA dX8_request_68 rfl ?_
            refine pr_iload_n hA dX8_request_69 rfl ?_
            refine pr_iload hA dX8_request_70 rfl ?_
            have hv72 : mI (pr_up σ 0 6 (0 : Int32)) := (mI.upn hI rfl)
            refine pr_callVi hA [.int (nI s), .int (nI t), .int u, .int q] (c_m_mk (m := m) (σ := (pr_up σ 0 6 (0 : Int32))) (s := (nI s)) (t := (nI t)) (u := u) (q := q) (pr_hl hA) hm hv72 (nI_vin (by omega) (by decide)) (nI_vin (by omega) (by decide)) h40 (hok h40).1 (hok h40).2) v_X8_342 (mo_k0 hm) (by decide) rfl rfl rfl (by decide) (Nat.zero_le _) (Nat.zero_le _) rfl (Nat.le_of_ble_eq_true rfl) dX8_request_72 ?_
            exact pr_ireturn hA rfl rfl (Nat.zero_le _) (Nat.zero_le _) dX8_request_75 ⟨(by simp only [mf_request_r, if_neg c_58]), rfl, (by simp only [mf_request, if_neg c_58]), rfl⟩
          · have n_58 : (mrn σ) = 40 := (nI_eq (by omega) (by omega)).mp c_58
            refine pr_bipush hA ((-2)) dX8_request_61 (by decide) ?_
            refine pr_goto hA 75 dX8_request_63 (by decide) ?_
            exact pr_ireturn hA rfl rfl (Nat.zero_le _) (Nat.zero_le _) dX8_request_75 ⟨(by simp only [mf_request_r, if_pos c_58]), rfl, (by simp only [mf_request, if_pos c_58]), rfl⟩
        · exact (c_44 (by decide)).elim
      · exact absurd c_32 (by decide)

theorem fr_mf_request {σ : pr_I} {s : Nat} {t : Nat} {u : Int32} {q : Int32} {o : Nat} (hms : ∀ m ∈ ([0, 1, 8, 9, 10] : List Nat), o ≠ m) : mf_request σ s t u q o = σ o := by
  unfold mf_request
  simp only [List.mem_cons, List.not_mem_nil, or_false, forall_eq_or_imp, forall_eq] at hms
  by_cases c_58 : (nI (mrn σ)) = (nI 40)
  · refine (congrFun (if_pos c_58) o).trans ?_
    rw [pr_up_ne (by omega)]
  · refine (congrFun (if_neg c_58) o).trans ?_
    rw [fr_m_mk (by simp only [List.mem_cons, List.not_mem_nil, or_false, forall_eq_or_imp, forall_eq]; omega), pr_up_ne (by omega)]

theorem fw_mf_request {σ : pr_I} {s : Nat} {t : Nat} {u : Int32} {q : Int32} {j0 : Nat} (hj : j0 < 12) (hmw : ∀ m ∈ ([8, 9] : List Nat), j0 ≠ m) : mf_request σ s t u q 1 j0 = σ 1 j0 := by
  simp only [List.mem_cons, List.not_mem_nil, or_false, forall_eq_or_imp, forall_eq] at hmw
  unfold mf_request
  by_cases c_58 : (nI (mrn σ)) = (nI 40)
  · rw [if_pos c_58]
    exact (pr_upv (by decide))
  · rw [if_neg c_58]
    exact ((fw_m_mk hj (by simp only [List.mem_cons, List.not_mem_nil, or_false, forall_eq_or_imp, forall_eq]; omega)).trans (pr_upv (by decide)))
noncomputable def mf_cancel_it45 (σ : pr_I) (k : Nat) : Nat → pr_I × Int32
  | 0 => ((pr_up σ 0 6 (0 : Int32)), (0 : Int32))
  | i + 1 => (if ((mf_cancel_it45 σ k i).1 1 (1384 + 8 * i + 0)) = (nI k) then (if (m_kept_r (mf_cancel_it45 σ k i).1 i) = 0 then ((mf_cancel_it45 σ k i).1, ((mf_cancel_it45 σ k i).2)) else ((m_gb (pr_up (mf_cancel_it45 σ k i).1 1 (1384 + 8 * i + 5) (3 : Int32)) i (((if (σ 1 (264 + 28 * k + 4)) = (2 : Int32) then (m_un_r (mf_cancel_it45 σ k i).1 k i) else ((mf_cancel_it45 σ k i).1 1 (1384 + 8 * i + 6))) * (σ 1 5)) / (100 : Int32))), (((mf_cancel_it45 σ k i).2) + (((if (σ 1 (264 + 28 * k + 4)) = (2 : Int32) then (m_un_r (mf_cancel_it45 σ k i).1 k i) else ((mf_cancel_it45 σ k i).1 1 (1384 + 8 * i + 6))) * (σ 1 5)) / (100 : Int32))))) else ((mf_cancel_it45 σ k i).1, ((mf_cancel_it45 σ k i).2)))
theorem fr_mf_cancel_it45 {σ : pr_I} {k : Nat} {o : Nat} (hms : ∀ m ∈ ([1] : List Nat), o ≠ m) : ∀ {i : Nat}, (mf_cancel_it45 σ k i).1 o = (pr_up σ 0 6 (0 : Int32)) o := by
  simp only [List.mem_cons, List.not_mem_nil, or_false, forall_eq_or_imp, forall_eq] at hms
  intro i
  induction i with
  | zero =>
    show (pr_up σ 0 6 (0 : Int32)) o = (pr_up σ 0 6 (0 : Int32)) o
    rfl
  | succ i ih =>
    by_cases c_65 : ((mf_cancel_it45 σ k i).1 1 (1384 + 8 * i + 0)) = (nI k)
    · refine (congrFun (congrArg (fun z : pr_I × Int32 => z.1) (if_pos c_65)) o).trans ?_
      by_cases c_74 : (m_kept_r (mf_cancel_it45 σ k i).1 i) = 0
      · refine (congrFun (congrArg (fun z : pr_I × Int32 => z.1) (if_pos c_74)) o).trans ?_
        show (mf_cancel_it45 σ k i).1 o = (pr_up σ 0 6 (0 : Int32)) o
        rw [ih]
      · refine (congrFun (congrArg (fun z : pr_I × Int32 => z.1) (if_neg c_74)) o).trans ?_
        show (m_gb (pr_up (mf_cancel_it45 σ k i).1 1 (1384 + 8 * i + 5) (3 : Int32)) i (((if (σ 1 (264 + 28 * k + 4)) = (2 : Int32) then (m_un_r (mf_cancel_it45 σ k i).1 k i) else ((mf_cancel_it45 σ k i).1 1 (1384 + 8 * i + 6))) * (σ 1 5)) / (100 : Int32))) o = (pr_up σ 0 6 (0 : Int32)) o
        rw [fr_m_gb (by simp only [List.mem_cons, List.not_mem_nil, or_false, forall_eq_or_imp, forall_eq]; omega), pr_up_ne (by omega), ih]
    · refine (congrFun (congrArg (fun z : pr_I × Int32 => z.1) (if_neg c_65)) o).trans ?_
      show (mf_cancel_it45 σ k i).1 o = (pr_up σ 0 6 (0 : Int32)) o
      rw [ih]
theorem fw_mf_cancel_it45 {σ : pr_I} {k : Nat} {j0 : Nat} (hj : j0 < 12) (hmw : ∀ m ∈ ([] : List Nat), j0 ≠ m) : ∀ {i : Nat}, (mf_cancel_it45 σ k i).1 1 j0 = (pr_up σ 0 6 (0 : Int32)) 1 j0 := by
  intro i
  induction i with
  | zero => rfl
  | succ i ih =>
    by_cases c_65 : ((mf_cancel_it45 σ k i).1 1 (1384 + 8 * i + 0)) = (nI k)
    · refine (congrArg (fun z : pr_I × Int32 => z.1 1 j0) (if_pos c_65)).trans ?_
      by_cases c_74 : (m_kept_r (mf_cancel_it45 σ k i).1 i) = 0
      · refine (congrArg (fun z : pr_I × Int32 => z.1 1 j0) (if_pos c_74)).trans ?_
        show (mf_cancel_it45 σ k i).1 1 j0 = (pr_up σ 0 6 (0 : Int32)) 1 j0
        exact ih
      · refine (congrArg (fun z : pr_I × Int32 => z.1 1 j0) (if_neg c_74)).trans ?_
        show (m_gb (pr_up (mf_cancel_it45 σ k i).1 1 (1384 + 8 * i + 5) (3 : Int32)) i (((if (σ 1 (264 + 28 * k + 4)) = (2 : Int32) then (m_un_r (mf_cancel_it45 σ k i).1 k i) else ((mf_cancel_it45 σ k i).1 1 (1384 + 8 * i + 6))) * (σ 1 5)) / (100 : Int32))) 1 j0 = (pr_up σ 0 6 (0 : Int32)) 1 j0
        exact ((fw_m_gb hj (fun m hm => by cases hm)).trans ((pr_upk (by omega)).trans ih))
    · refine (congrArg (fun z : pr_I × Int32 => z.1 1 j0) (if_neg c_65)).trans ?_
      show (mf_cancel_it45 σ k i).1 1 j0 = (pr_up σ 0 6 (0 : Int32)) 1 j0
      exact ih

noncomputable def mf_cancel_r (σ : pr_I) (k : Nat) : Int32 := (if (σ 1 (264 + 28 * k + 4)) = 0 then ((mf_cancel_it45 σ k (mtn σ)).2) else (if (σ 1 (264 + 28 * k + 4)) = (1 : Int32) then ((mf_cancel_it45 σ k (mtn σ)).2) else (if (σ 1 (264 + 28 * k + 4)) = (2 : Int32) then ((mf_cancel_it45 σ k (mtn σ)).2) else (if (σ 1 (264 + 28 * k + 4)) = (7 : Int32) then ((mf_cancel_it45 σ k (mtn σ)).2) else ((-3) : Int32)))))
noncomputable def mf_cancel (σ : pr_I) (k : Nat) : pr_I := (if (σ 1 (264 + 28 * k + 4)) = 0 then (m_st (mf_cancel_it45 σ k (mtn σ)).1 k (5 : Int32)) else (if (σ 1 (264 + 28 * k + 4)) = (1 : Int32) then (m_st (mf_cancel_it45 σ k (mtn σ)).1 k (5 : Int32)) else (if (σ 1 (264 + 28 * k + 4)) = (2 : Int32) then (m_st (mf_cancel_it45 σ k (mtn σ)).1 k (5 : Int32)) else (if (σ 1 (264 + 28 * k + 4)) = (7 : Int32) then (m_st (mf_cancel_it45 σ k (mtn σ)).1 k (5 : Int32)) else (pr_up σ 0 6 (0 : Int32))))))
theorem mI_mf_cancel_it45 {σ : pr_I} {k : Nat} (hI : mI σ) : ∀ i, i ≤ 500 → mI (mf_cancel_it45 σ k i).1
  | 0, _ => mI.upn hI rfl
  | i + 1, hi => by
    have ih := mI_mf_cancel_it45 (k := k) hI i (by omega)
    unfold mf_cancel_it45
    exact p_ite (P := fun z : pr_I × Int32 => mI z.1) (p_ite (P := fun z : pr_I × Int32 => mI z.1) ih (mI_m_gb (by omega) (mI.upn ih ((mW_tick (by omega) (by decide)).trans rfl)))) ih
set_option maxRecDepth 100000 in
set_option maxHeartbeats 400000 in
theorem c_mf_cancel {g : pr_C} {l : Launch} (hl : l.stackTraces = false) {T : pr_T} {I : pr_I} {L : pr_L} {m : Nat} {σ : pr_I} {k : Nat} (hm : pr_Mo T m) (hI : mI σ) (hk : k < mrn σ) (hne : ∀ i, i < mtn σ → ((mf_cancel_it45 σ k i).1 1 (264 + 28 * k + 3)).toInt64 ≠ 0) : pr_M g l 11 0 0 mX8_cancel [.ref m, .int (nI k)] T (rg_put I m 16 σ) L (pr_R (some (.int (mf_cancel_r σ k))) T (rg_put I m 16 (mf_cancel σ k)) L) pr_no := by
  refine pr_ofG (by decide) rfl hl (Nat.le_of_ble_eq_true rfl) (fun X hA hX hXn hXt => ?_)
  subst hX
  show pr_G g X mX8_cancel.2.2.1 _ 0 0 0 [.ref m, .int (nI k), .null, .null, .null, .null] [] T (rg_put I m 16 σ) L
  have hn5 := mI_n5 hI
  have hr4 := mI_nr4 hI
  have hl24 := mI_nl24 hI
  have hn12 := mI_nn12 hI
  refine pr_aload_n hA dX8_cancel_0 rfl ?_
  refine pr_iload_n hA dX8_cancel_1 rfl ?_
  have hv2 : mI σ := hI
  refine pr_callVi hA [.int (nI k)] (c_nq_ok (m := m) (σ := σ) (pr_hl hA) hm hv2 (by omega)) v_X8_346 (mo_k0 hm) (by decide) rfl rfl rfl (by decide) (Nat.zero_le _) (Nat.zero_le _) rfl (Nat.le_of_ble_eq_true rfl) dX8_cancel_2 ?_
  refine pr_if_eq hA 10 dX8_cancel_5 (by decide) (fun c_5 => ?_) (fun c_5 => ?_)
  · refine pr_aload_n hA dX8_cancel_10 rfl ?_
    refine pr_iload_n hA dX8_cancel_11 rfl ?_
    refine pr_iconst hA (4) dX8_cancel_12 (by decide) ?_
    refine pr_callVi hA [.int (nI k), .int (4 : Int32)] (c_m_req (m := m) (k := k) (c := 4) (σ := (pr_up σ 0 6 (0 : Int32))) (pr_hl hA) hm (by omega) (by omega)) v_X8_229 (mo_k0 hm) (by decide) rfl rfl rfl (by decide) (Nat.zero_le _) (Nat.zero_le _) rfl (Nat.le_of_ble_eq_true rfl) dX8_cancel_13 ?_
    rw [show ((pr_up σ 0 6 (0 : Int32)) 1 (264 + 28 * k + 4)) = (σ 1 (264 + 28 * k + 4)) from (pr_upv (by decide))]
    refine pr_istore_n (ls' := [_, _, _, _, _, _]) hA dX8_cancel_16 (by decide) rfl ?_
    refine pr_iload_n hA dX8_cancel_17 rfl ?_
    refine pr_if_eq hA 40 dX8_cancel_18 (by decide) (fun c_18 => ?_) (fun c_18 => ?_)
    · refine pr_iconst hA (0) dX8_cancel_40 (by decide) ?_
      refine pr_istore_n (ls' := [_, _, _, _, _, _]) hA dX8_cancel_41 (by decide) rfl ?_
      refine pr_iconst hA (nI 0) dX8_cancel_42 (by decide) ?_
      refine pr_istore (ls' := [_, _, _, _, _, _]) hA dX8_cancel_43 (by decide) rfl ?_
      have lp45 : ∀ (j i : Nat), (mtn σ) - i = j → i ≤ (mtn σ) → pr_G g X mX8_cancel.2.2.1 (pr_MQ g X (pr_R (some (.int (mf_cancel_r σ k))) T (rg_put I m 16 (mf_cancel σ k)) L) pr_no 0 0) 0 0 45 [.ref m, .int (nI k), .int (σ 1 (264 + 28 * k + 4)), .int ((mf_cancel_it45 σ k i).2), .int (nI i), .null] [] T (rg_put I m 16 (mf_cancel_it45 σ k i).1) L := by
        intro j
        induction j using Nat.strongRecOn with | ind j ih45 =>
        intro i hj45 hk45
        refine pr_iload hA dX8_cancel_45 rfl ?_
        refine pr_aload_n hA dX8_cancel_47 rfl ?_
        refine pr_getR hA f_X8_9 rfl (mo_k0 hm) (mo_f0_0 hm) dX8_cancel_48 ?_
        refine pr_bipush hA (nI 9) dX8_cancel_51 (by decide) ?_
        refine pr_ialdM (v := (nI (mtn σ))) hA (mo_k1 hm) (by omega) (by omega) ((rg_val (by decide)).trans ((fw_mf_cancel_it45 (by decide) (by decide)).trans ((pr_upv (by decide)).trans (mI_n hI)))) dX8_cancel_53 ?_
        refine pr_icmp_ge hA 152 dX8_cancel_54 (by decide) (fun c_54 => ?_) (fun c_54 => ?_)
        · have n_54 : (mtn σ) ≤ i := (nI_leI (by omega) (by omega)).mp c_54
          have hex : (mtn σ) = i := by omega
          subst hex
          refine pr_aload_n hA dX8_cancel_152 rfl ?_
          refine pr_iload_n hA dX8_cancel_153 rfl ?_
          refine pr_iconst hA (5) dX8_cancel_154 (by decide) ?_
          have hv155 : mI (mf_cancel_it45 σ k (mtn σ)).1 := (mI_mf_cancel_it45 hI (mtn σ) (by omega))
          refine pr_callVv hA [.int (nI k), .int (5 : Int32)] (c_m_st (m := m) (σ := (mf_cancel_it45 σ k (mtn σ)).1) (r := k) (z := (5 : Int32)) (pr_hl hA) hm hv155 (by first | omega | assumption)) v_X8_325 (mo_k0 hm) (by decide) rfl rfl rfl (by decide) (Nat.zero_le _) (Nat.zero_le _) rfl (Nat.le_of_ble_eq_true rfl) dX8_cancel_155 ?_
          refine pr_iload_n hA dX8_cancel_158 rfl ?_
          exact pr_ireturn hA rfl rfl (Nat.zero_le _) (Nat.zero_le _) dX8_cancel_159 ⟨(by simp only [mf_cancel_r, if_pos c_18]), rfl, (by simp only [mf_cancel, if_pos c_18]), rfl⟩
        · have n_54 : ¬ (mtn σ) ≤ i := fun q => c_54 ((nI_leI (by omega) (by omega)).mpr q)
          refine pr_aload_n hA dX8_cancel_57 rfl ?_
          refine pr_iload hA dX8_cancel_58 rfl ?_
          refine pr_iconst hA (0) dX8_cancel_60 (by decide) ?_
          refine pr_callVi hA [.int (nI i), .int (0 : Int32)] (c_m_tick (m := m) (k := i) (c := 0) (σ := (mf_cancel_it45 σ k i).1) (pr_hl hA) hm (by omega) (by omega)) v_X8_197 (mo_k0 hm) (by decide) rfl rfl rfl (by decide) (Nat.zero_le _) (Nat.zero_le _) rfl (Nat.le_of_ble_eq_true rfl) dX8_cancel_61 ?_
          refine pr_iload_n hA dX8_cancel_64 rfl ?_
          refine pr_icmp_ne hA 146 dX8_cancel_65 (by decide) (fun c_65 => ?_) (fun c_65 => ?_)
          · refine pr_iinc (ls' := [_, _, _, _, _, _]) hA (nI (i + 1)) dX8_cancel_146 (by decide) rfl (nI_inc _) rfl ?_
            refine pr_goto hA 45 dX8_cancel_149 (by decide) ?_
            have hb := ih45 ((mtn σ) - (i + 1)) (by omega) (i + 1) rfl (by omega)
            simp only [mf_cancel_it45, if_neg c_65] at hb
            exact hb
          · refine pr_aload_n hA dX8_cancel_68 rfl ?_
            refine pr_iload hA dX8_cancel_69 rfl ?_
            refine pr_callVi hA [.int (nI i)] (c_m_kept (m := m) (σ := (mf_cancel_it45 σ k i).1) (t := i) (pr_hl hA) hm (by omega)) v_X8_201 (mo_k0 hm) (by decide) rfl rfl rfl (by decide) (Nat.zero_le _) (Nat.zero_le _) rfl (Nat.le_of_ble_eq_true rfl) dX8_cancel_71 ?_
            refine pr_if_ne hA 80 dX8_cancel_74 (by decide) (fun c_74 => ?_) (fun c_74 => ?_)
            · refine pr_iload_n hA dX8_cancel_80 rfl ?_
              refine pr_iconst hA (2) dX8_cancel_81 (by decide) ?_
              refine pr_join (c := (σ 1 (264 + 28 * k + 4)) = (2 : Int32)) (J := 103) (st := []) (m_un_r (mf_cancel_it45 σ k i).1 k i) ((mf_cancel_it45 σ k i).1 1 (1384 + 8 * i + 6)) inferInstance (fun kt kf => ?_) ?_
              · refine pr_icmp_ne hA 95 dX8_cancel_82 (by decide) (fun c_82 => ?_) (fun c_82 => ?_)
                · refine pr_aload_n hA dX8_cancel_95 rfl ?_
                  refine pr_iload hA dX8_cancel_96 rfl ?_
                  refine pr_bipush hA (6) dX8_cancel_98 (by decide) ?_
                  refine pr_callVi hA [.int (nI i), .int (6 : Int32)] (c_m_tick (m := m) (k := i) (c := 6) (σ := (mf_cancel_it45 σ k i).1) (pr_hl hA) hm (by omega) (by omega)) v_X8_197 (mo_k0 hm) (by decide) rfl rfl rfl (by decide) (Nat.zero_le _) (Nat.zero_le _) rfl (Nat.le_of_ble_eq_true rfl) dX8_cancel_100 ?_
                  exact kf c_82
                · refine pr_aload_n hA dX8_cancel_85 rfl ?_
                  refine pr_iload_n hA dX8_cancel_86 rfl ?_
                  refine pr_iload hA dX8_cancel_87 rfl ?_
                  have hv89 : mI (mf_cancel_it45 σ k i).1 := (mI_mf_cancel_it45 hI i (by omega))
                  refine pr_callVi hA [.int (nI k), .int (nI i)] (c_m_un (m := m) (σ := (mf_cancel_it45 σ k i).1) (r := k) (t := i) (pr_hl hA) hm hv89 (by first | omega | assumption) (by first | omega | assumption) (hne i (by omega))) v_X8_322 (mo_k0 hm) (by decide) rfl rfl rfl (by decide) (Nat.zero_le _) (Nat.zero_le _) rfl (Nat.le_of_ble_eq_true rfl) dX8_cancel_89 ?_
                  refine pr_goto hA 103 dX8_cancel_92 (by decide) ?_
                  exact kt c_82
              · refine pr_istore (ls' := [_, _, _, _, _, _]) hA dX8_cancel_103 (by decide) rfl ?_
                refine pr_aload_n hA dX8_cancel_105 rfl ?_
                refine pr_iload hA dX8_cancel_106 rfl ?_
                refine pr_iconst hA (5) dX8_cancel_108 (by decide) ?_
                refine pr_iconst hA (3) dX8_cancel_109 (by decide) ?_
                refine pr_callVv hA [.int (nI i), .int (5 : Int32), .int (3 : Int32)] (c_m_putTick (m := m) (k := i) (c := 5) (σ := (mf_cancel_it45 σ k i).1) (pr_hl hA) hm (by omega) (by omega)) v_X8_242 (mo_k0 hm) (by decide) rfl rfl rfl (by decide) (Nat.zero_le _) (Nat.zero_le _) rfl (Nat.le_of_ble_eq_true rfl) dX8_cancel_110 ?_
                refine pr_aload_n hA dX8_cancel_113 rfl ?_
                refine pr_iload hA dX8_cancel_114 rfl ?_
                refine pr_iload hA dX8_cancel_116 rfl ?_
                refine pr_aload_n hA dX8_cancel_118 rfl ?_
                refine pr_getR hA f_X8_9 rfl (mo_k0 hm) (mo_f0_0 hm) dX8_cancel_119 ?_
                refine pr_iconst hA (nI 5) dX8_cancel_122 (by decide) ?_
                refine pr_ialdM (v := (σ 1 5)) hA (mo_k1 hm) (by omega) (by omega) ((rg_val (by decide)).trans ((pr_upk (by omega)).trans ((fw_mf_cancel_it45 (by decide) (by decide)).trans (pr_upv (by decide))))) dX8_cancel_123 ?_
                refine pr_imul hA dX8_cancel_124 ?_
                refine pr_bipush hA (100) dX8_cancel_125 (by decide) ?_
                refine pr_idiv hA dX8_cancel_127 (by decide) ?_
                have hv128 : mI (pr_up (mf_cancel_it45 σ k i).1 1 (1384 + 8 * i + 5) (3 : Int32)) := (mI.upn (mI_mf_cancel_it45 hI i (by omega)) ((mW_tick (k := i) (c := 5) (by omega) (by decide)).trans rfl))
                refine pr_callVv hA [.int (nI i), .int (((if (σ 1 (264 + 28 * k + 4)) = (2 : Int32) then (m_un_r (mf_cancel_it45 σ k i).1 k i) else ((mf_cancel_it45 σ k i).1 1 (1384 + 8 * i + 6))) * (σ 1 5)) / (100 : Int32))] (c_m_gb (m := m) (σ := (pr_up (mf_cancel_it45 σ k i).1 1 (1384 + 8 * i + 5) (3 : Int32))) (t := i) (z := (((if (σ 1 (264 + 28 * k + 4)) = (2 : Int32) then (m_un_r (mf_cancel_it45 σ k i).1 k i) else ((mf_cancel_it45 σ k i).1 1 (1384 + 8 * i + 6))) * (σ 1 5)) / (100 : Int32))) (pr_hl hA) hm hv128 (by first | omega | assumption)) v_X8_257 (mo_k0 hm) (by decide) rfl rfl rfl (by decide) (Nat.zero_le _) (Nat.zero_le _) rfl (Nat.le_of_ble_eq_true rfl) dX8_cancel_128 ?_
                refine pr_iload_n hA dX8_cancel_131 rfl ?_
                refine pr_iload hA dX8_cancel_132 rfl ?_
                refine pr_aload_n hA dX8_cancel_134 rfl ?_
                refine pr_getR hA f_X8_9 rfl (mo_k0 hm) (mo_f0_0 hm) dX8_cancel_135 ?_
                refine pr_iconst hA (nI 5) dX8_cancel_138 (by decide) ?_
                refine pr_ialdM (v := (σ 1 5)) hA (mo_k1 hm) (by omega) (by omega) ((rg_val (by decide)).trans ((fw_m_gb (by decide) (by decide)).trans ((pr_upk (by omega)).trans ((fw_mf_cancel_it45 (by decide) (by decide)).trans (pr_upv (by decide)))))) dX8_cancel_139 ?_
                refine pr_imul hA dX8_cancel_140 ?_
                refine pr_bipush hA (100) dX8_cancel_141 (by decide) ?_
                refine pr_idiv hA dX8_cancel_143 (by decide) ?_
                refine pr_iadd hA dX8_cancel_144 ?_
                refine pr_istore_n (ls' := [_, _, _, _, _, _]) hA dX8_cancel_145 (by decide) rfl ?_
                refine pr_iinc (ls' := [_, _, _, _, _, _]) hA (nI (i + 1)) dX8_cancel_146 (by decide) rfl (nI_inc _) rfl ?_
                refine pr_goto hA 45 dX8_cancel_149 (by decide) ?_
                have hb := ih45 ((mtn σ) - (i + 1)) (by omega) (i + 1) rfl (by omega)
                simp only [mf_cancel_it45, if_pos c_65, if_neg c_74] at hb
                exact pr_lessL (ls' := [.ref m, .int (nI k), .int (σ 1 (264 + 28 * k + 4)), .int (((mf_cancel_it45 σ k i).2) + (((if (σ 1 (264 + 28 * k + 4)) = (2 : Int32) then (m_un_r (mf_cancel_it45 σ k i).1 k i) else ((mf_cancel_it45 σ k i).1 1 (1384 + 8 * i + 6))) * (σ 1 5)) / (100 : Int32))), .int (nI (i + 1)), .null]) ⟨.inr rfl, .inr rfl, .inr rfl, .inr rfl, .inr rfl, .inl rfl, trivial⟩ hb
            · refine pr_goto hA 146 dX8_cancel_77 (by decide) ?_
              refine pr_iinc (ls' := [_, _, _, _, _, _]) hA (nI (i + 1)) dX8_cancel_146 (by decide) rfl (nI_inc _) rfl ?_
              refine pr_goto hA 45 dX8_cancel_149 (by decide) ?_
              have hb := ih45 ((mtn σ) - (i + 1)) (by omega) (i + 1) rfl (by omega)
              simp only [mf_cancel_it45, if_pos c_65, if_pos c_74] at hb
              exact hb
      exact (lp45 ((mtn σ) - 0) 0 rfl (by omega))
    · refine pr_iload_n hA dX8_cancel_21 rfl ?_
      refine pr_iconst hA (1) dX8_cancel_22 (by decide) ?_
      refine pr_icmp_eq hA 40 dX8_cancel_23 (by decide) (fun c_23 => ?_) (fun c_23 => ?_)
      · refine pr_iconst hA (0) dX8_cancel_40 (by decide) ?_
        refine pr_istore_n (ls' := [_, _, _, _, _, _]) hA dX8_cancel_41 (by decide) rfl ?_
        refine pr_iconst hA (nI 0) dX8_cancel_42 (by decide) ?_
        refine pr_istore (ls' := [_, _, _, _, _, _]) hA dX8_cancel_43 (by decide) rfl ?_
        have lp45 : ∀ (j i : Nat), (mtn σ) - i = j → i ≤ (mtn σ) → pr_G g X mX8_cancel.2.2.1 (pr_MQ g X (pr_R (some (.int (mf_cancel_r σ k))) T (rg_put I m 16 (mf_cancel σ k)) L) pr_no 0 0) 0 0 45 [.ref m, .int (nI k), .int (σ 1 (264 + 28 * k + 4)), .int ((mf_cancel_it45 σ k i).2), .int (nI i), .null] [] T (rg_put I m 16 (mf_cancel_it45 σ k i).1) L := by
          intro j
          induction j using Nat.strongRecOn with | ind j ih45 =>
          intro i hj45 hk45
          refine pr_iload hA dX8_cancel_45 rfl ?_
          refine pr_aload_n hA dX8_cancel_47 rfl ?_
          refine pr_getR hA f_X8_9 rfl (mo_k0 hm) (mo_f0_0 hm) dX8_cancel_48 ?_
          refine pr_bipush hA (nI 9) dX8_cancel_51 (by decide) ?_
          refine pr_ialdM (v := (nI (mtn σ))) hA (mo_k1 hm) (by omega) (by omega) ((rg_val (by decide)).trans ((fw_mf_cancel_it45 (by decide) (by decide)).trans ((pr_upv (by decide)).trans (mI_n hI)))) dX8_cancel_53 ?_
          refine pr_icmp_ge hA 152 dX8_cancel_54 (by decide) (fun c_54 => ?_) (fun c_54 => ?_)
          · have n_54 : (mtn σ) ≤ i := (nI_leI (by omega) (by omega)).mp c_54
            have hex : (mtn σ) = i := by omega
            subst hex
            refine pr_aload_n hA dX8_cancel_152 rfl ?_
            refine pr_iload_n hA dX8_cancel_153 rfl ?_
            refine pr_iconst hA (5) dX8_cancel_154 (by decide) ?_
            have hv155 : mI (mf_cancel_it45 σ k (mtn σ)).1 := (mI_mf_cancel_it45 hI (mtn σ) (by omega))
            refine pr_callVv hA [.int (nI k), .int (5 : Int32)] (c_m_st (m := m) (σ := (mf_cancel_it45 σ k (mtn σ)).1) (r := k) (z := (5 : Int32)) (pr_hl hA) hm hv155 (by first | omega | assumption)) v_X8_325 (mo_k0 hm) (by decide) rfl rfl rfl (by decide) (Nat.zero_le _) (Nat.zero_le _) rfl (Nat.le_of_ble_eq_true rfl) dX8_cancel_155 ?_
            refine pr_iload_n hA dX8_cancel_158 rfl ?_
            exact pr_ireturn hA rfl rfl (Nat.zero_le _) (Nat.zero_le _) dX8_cancel_159 ⟨(by simp only [mf_cancel_r, if_neg c_18, if_pos c_23]), rfl, (by simp only [mf_cancel, if_neg c_18, if_pos c_23]), rfl⟩
          · have n_54 : ¬ (mtn σ) ≤ i := fun q => c_54 ((nI_leI (by omega) (by omega)).mpr q)
            refine pr_aload_n hA dX8_cancel_57 rfl ?_
            refine pr_iload hA dX8_cancel_58 rfl ?_
            refine pr_iconst hA (0) dX8_cancel_60 (by decide) ?_
            refine pr_callVi hA [.int (nI i), .int (0 : Int32)] (c_m_tick (m := m) (k := i) (c := 0) (σ := (mf_cancel_it45 σ k i).1) (pr_hl hA) hm (by omega) (by omega)) v_X8_197 (mo_k0 hm) (by decide) rfl rfl rfl (by decide) (Nat.zero_le _) (Nat.zero_le _) rfl (Nat.le_of_ble_eq_true rfl) dX8_cancel_61 ?_
            refine pr_iload_n hA dX8_cancel_64 rfl ?_
            refine pr_icmp_ne hA 146 dX8_cancel_65 (by decide) (fun c_65 => ?_) (fun c_65 => ?_)
            · refine pr_iinc (ls' := [_, _, _, _, _, _]) hA (nI (i + 1)) dX8_cancel_146 (by decide) rfl (nI_inc _) rfl ?_
              refine pr_goto hA 45 dX8_cancel_149 (by decide) ?_
              have hb := ih45 ((mtn σ) - (i + 1)) (by omega) (i + 1) rfl (by omega)
              simp only [mf_cancel_it45, if_neg c_65] at hb
              exact hb
            · refine pr_aload_n hA dX8_cancel_68 rfl ?_
              refine pr_iload hA dX8_cancel_69 rfl ?_
              refine pr_callVi hA [.int (nI i)] (c_m_kept (m := m) (σ := (mf_cancel_it45 σ k i).1) (t := i) (pr_hl hA) hm (by omega)) v_X8_201 (mo_k0 hm) (by decide) rfl rfl rfl (by decide) (Nat.zero_le _) (Nat.zero_le _) rfl (Nat.le_of_ble_eq_true rfl) dX8_cancel_71 ?_
              refine pr_if_ne hA 80 dX8_cancel_74 (by decide) (fun c_74 => ?_) (fun c_74 => ?_)
              · refine pr_iload_n hA dX8_cancel_80 rfl ?_
                refine pr_iconst hA (2) dX8_cancel_81 (by decide) ?_
                refine pr_join (c := (σ 1 (264 + 28 * k + 4)) = (2 : Int32)) (J := 103) (st := []) (m_un_r (mf_cancel_it45 σ k i).1 k i) ((mf_cancel_it45 σ k i).1 1 (1384 + 8 * i + 6)) inferInstance (fun kt kf => ?_) ?_
                · refine pr_icmp_ne hA 95 dX8_cancel_82 (by decide) (fun c_82 => ?_) (fun c_82 => ?_)
                  · refine pr_aload_n hA dX8_cancel_95 rfl ?_
                    refine pr_iload hA dX8_cancel_96 rfl ?_
                    refine pr_bipush hA (6) dX8_cancel_98 (by decide) ?_
                    refine pr_callVi hA [.int (nI i), .int (6 : Int32)] (c_m_tick (m := m) (k := i) (c := 6) (σ := (mf_cancel_it45 σ k i).1) (pr_hl hA) hm (by omega) (by omega)) v_X8_197 (mo_k0 hm) (by decide) rfl rfl rfl (by decide) (Nat.zero_le _) (Nat.zero_le _) rfl (Nat.le_of_ble_eq_true rfl) dX8_cancel_100 ?_
                    exact kf c_82
                  · refine pr_aload_n hA dX8_cancel_85 rfl ?_
                    refine pr_iload_n hA dX8_cancel_86 rfl ?_
                    refine pr_iload hA dX8_cancel_87 rfl ?_
                    have hv89 : mI (mf_cancel_it45 σ k i).1 := (mI_mf_cancel_it45 hI i (by omega))
                    refine pr_callVi hA [.int (nI k), .int (nI i)] (c_m_un (m := m) (σ := (mf_cancel_it45 σ k i).1) (r := k) (t := i) (pr_hl hA) hm hv89 (by first | omega | assumption) (by first | omega | assumption) (hne i (by omega))) v_X8_322 (mo_k0 hm) (by decide) rfl rfl rfl (by decide) (Nat.zero_le _) (Nat.zero_le _) rfl (Nat.le_of_ble_eq_true rfl) dX8_cancel_89 ?_
                    refine pr_goto hA 103 dX8_cancel_92 (by decide) ?_
                    exact kt c_82
                · refine pr_istore (ls' := [_, _, _, _, _, _]) hA dX8_cancel_103 (by decide) rfl ?_
                  refine pr_aload_n hA dX8_cancel_105 rfl ?_
                  refine pr_iload hA dX8_cancel_106 rfl ?_
                  refine pr_iconst hA (5) dX8_cancel_108 (by decide) ?_
                  refine pr_iconst hA (3) dX8_cancel_109 (by decide) ?_
                  refine pr_callVv hA [.int (nI i), .int (5 : Int32), .int (3 : Int32)] (c_m_putTick (m := m) (k := i) (c := 5) (σ := (mf_cancel_it45 σ k i).1) (pr_hl hA) hm (by omega) (by omega)) v_X8_242 (mo_k0 hm) (by decide) rfl rfl rfl (by decide) (Nat.zero_le _) (Nat.zero_le _) rfl (Nat.le_of_ble_eq_true rfl) dX8_cancel_110 ?_
                  refine pr_aload_n hA dX8_cancel_113 rfl ?_
                  refine pr_iload hA dX8_cancel_114 rfl ?_
                  refine pr_iload hA dX8_cancel_116 rfl ?_
                  refine pr_aload_n hA dX8_cancel_118 rfl ?_
                  refine pr_getR hA f_X8_9 rfl (mo_k0 hm) (mo_f0_0 hm) dX8_cancel_119 ?_
                  refine pr_iconst hA (nI 5) dX8_cancel_122 (by decide) ?_
                  refine pr_ialdM (v := (σ 1 5)) hA (mo_k1 hm) (by omega) (by omega) ((rg_val (by decide)).trans ((pr_upk (by omega)).trans ((fw_mf_cancel_it45 (by decide) (by decide)).trans (pr_upv (by decide))))) dX8_cancel_123 ?_
                  refine pr_imul hA dX8_cancel_124 ?_
                  refine pr_bipush hA (100) dX8_cancel_125 (by decide) ?_
                  refine pr_idiv hA dX8_cancel_127 (by decide) ?_
                  have hv128 : mI (pr_up (mf_cancel_it45 σ k i).1 1 (1384 + 8 * i + 5) (3 : Int32)) := (mI.upn (mI_mf_cancel_it45 hI i (by omega)) ((mW_tick (k := i) (c := 5) (by omega) (by decide)).trans rfl))
                  refine pr_callVv hA [.int (nI i), .int (((if (σ 1 (264 + 28 * k + 4)) = (2 : Int32) then (m_un_r (mf_cancel_it45 σ k i).1 k i) else ((mf_cancel_it45 σ k i).1 1 (1384 + 8 * i + 6))) * (σ 1 5)) / (100 : Int32))] (c_m_gb (m := m) (σ := (pr_up (mf_cancel_it45 σ k i).1 1 (1384 + 8 * i + 5) (3 : Int32))) (t := i) (z := (((if (σ 1 (264 + 28 * k + 4)) = (2 : Int32) then (m_un_r (mf_cancel_it45 σ k i).1 k i) else ((mf_cancel_it45 σ k i).1 1 (1384 + 8 * i + 6))) * (σ 1 5)) / (100 : Int32))) (pr_hl hA) hm hv128 (by first | omega | assumption)) v_X8_257 (mo_k0 hm) (by decide) rfl rfl rfl (by decide) (Nat.zero_le _) (Nat.zero_le _) rfl (Nat.le_of_ble_eq_true rfl) dX8_cancel_128 ?_
                  refine pr_iload_n hA dX8_cancel_131 rfl ?_
                  refine pr_iload hA dX8_cancel_132 rfl ?_
                  refine pr_aload_n hA dX8_cancel_134 rfl ?_
                  refine pr_getR hA f_X8_9 rfl (mo_k0 hm) (mo_f0_0 hm) dX8_cancel_135 ?_
                  refine pr_iconst hA (nI 5) dX8_cancel_138 (by decide) ?_
                  refine pr_ialdM (v := (σ 1 5)) hA (mo_k1 hm) (by omega) (by omega) ((rg_val (by decide)).trans ((fw_m_gb (by decide) (by decide)).trans ((pr_upk (by omega)).trans ((fw_mf_cancel_it45 (by decide) (by decide)).trans (pr_upv (by decide)))))) dX8_cancel_139 ?_
                  refine pr_imul hA dX8_cancel_140 ?_
                  refine pr_bipush hA (100) dX8_cancel_141 (by decide) ?_
                  refine pr_idiv hA dX8_cancel_143 (by decide) ?_
                  refine pr_iadd hA dX8_cancel_144 ?_
                  refine pr_istore_n (ls' := [_, _, _, _, _, _]) hA dX8_cancel_145 (by decide) rfl ?_
                  refine pr_iinc (ls' := [_, _, _, _, _, _]) hA (nI (i + 1)) dX8_cancel_146 (by decide) rfl (nI_inc _) rfl ?_
                  refine pr_goto hA 45 dX8_cancel_149 (by decide) ?_
                  have hb := ih45 ((mtn σ) - (i + 1)) (by omega) (i + 1) rfl (by omega)
                  simp only [mf_cancel_it45, if_pos c_65, if_neg c_74] at hb
                  exact pr_lessL (ls' := [.ref m, .int (nI k), .int (σ 1 (264 + 28 * k + 4)), .int (((mf_cancel_it45 σ k i).2) + (((if (σ 1 (264 + 28 * k + 4)) = (2 : Int32) then (m_un_r (mf_cancel_it45 σ k i).1 k i) else ((mf_cancel_it45 σ k i).1 1 (1384 + 8 * i + 6))) * (σ 1 5)) / (100 : Int32))), .int (nI (i + 1)), .null]) ⟨.inr rfl, .inr rfl, .inr rfl, .inr rfl, .inr rfl, .inl rfl, trivial⟩ hb
              · refine pr_goto hA 146 dX8_cancel_77 (by decide) ?_
                refine pr_iinc (ls' := [_, _, _, _, _, _]) hA (nI (i + 1)) dX8_cancel_146 (by decide) rfl (nI_inc _) rfl ?_
                refine pr_goto hA 45 dX8_cancel_149 (by decide) ?_
                have hb := ih45 ((mtn σ) - (i + 1)) (by omega) (i + 1) rfl (by omega)
                simp only [mf_cancel_it45, if_pos c_65, if_pos c_74] at hb
                exact hb
        exact (lp45 ((mtn σ) - 0) 0 rfl (by omega))
      · refine pr_iload_n hA dX8_cancel_26 rfl ?_
        refine pr_iconst hA (2) dX8_cancel_27 (by decide) ?_
        refine pr_icmp_eq hA 40 dX8_cancel_28 (by decide) (fun c_28 => ?_) (fun c_28 => ?_)
        · refine pr_iconst hA (0) dX8_cancel_40 (by decide) ?_
          refine pr_istore_n (ls' := [_, _, _, _, _, _]) hA dX8_cancel_41 (by decide) rfl ?_
          refine pr_iconst hA (nI 0) dX8_cancel_42 (by decide) ?_
          refine pr_istore (ls' := [_, _, _, _, _, _]) hA dX8_cancel_43 (by decide) rfl ?_
          have lp45 : ∀ (j i : Nat), (mtn σ) - i = j → i ≤ (mtn σ) → pr_G g X mX8_cancel.2.2.1 (pr_MQ g X (pr_R (some (.int (mf_cancel_r σ k))) T (rg_put I m 16 (mf_cancel σ k)) L) pr_no 0 0) 0 0 45 [.ref m, .int (nI k), .int (σ 1 (264 + 28 * k + 4)), .int ((mf_cancel_it45 σ k i).2), .int (nI i), .null] [] T (rg_put I m 16 (mf_cancel_it45 σ k i).1) L := by
            intro j
            induction j using Nat.strongRecOn with | ind j ih45 =>
            intro i hj45 hk45
            refine pr_iload hA dX8_cancel_45 rfl ?_
            refine pr_aload_n hA dX8_cancel_47 rfl ?_
            refine pr_getR hA f_X8_9 rfl (mo_k0 hm) (mo_f0_0 hm) dX8_cancel_48 ?_
            refine pr_bipush hA (nI 9) dX8_cancel_51 (by decide) ?_
            refine pr_ialdM (v := (nI (mtn σ))) hA (mo_k1 hm) (by omega) (by omega) ((rg_val (by decide)).trans ((fw_mf_cancel_it45 (by decide) (by decide)).trans ((pr_upv (by decide)).trans (mI_n hI)))) dX8_cancel_53 ?_
            refine pr_icmp_ge hA 152 dX8_cancel_54 (by decide) (fun c_54 => ?_) (fun c_54 => ?_)
            · have n_54 : (mtn σ) ≤ i := (nI_leI (by omega) (by omega)).mp c_54
              have hex : (mtn σ) = i := by omega
              subst hex
              refine pr_aload_n hA dX8_cancel_152 rfl ?_
              refine pr_iload_n hA dX8_cancel_153 rfl ?_
              refine pr_iconst hA (5) dX8_cancel_154 (by decide) ?_
              have hv155 : mI (mf_cancel_it45 σ k (mtn σ)).1 := (mI_mf_cancel_it45 hI (mtn σ) (by omega))
              refine pr_callVv hA [.int (nI k), .int (5 : Int32)] (c_m_st (m := m) (σ := (mf_cancel_it45 σ k (mtn σ)).1) (r := k) (z := (5 : Int32)) (pr_hl hA) hm hv155 (by first | omega | assumption)) v_X8_325 (mo_k0 hm) (by decide) rfl rfl rfl (by decide) (Nat.zero_le _) (Nat.zero_le _) rfl (Nat.le_of_ble_eq_true rfl) dX8_cancel_155 ?_
              refine pr_iload_n hA dX8_cancel_158 rfl ?_
              exact pr_ireturn hA rfl rfl (Nat.zero_le _) (Nat.zero_le _) dX8_cancel_159 ⟨(by simp only [mf_cancel_r, if_neg c_18, if_neg c_23, if_pos c_28]), rfl, (by simp only [mf_cancel, if_neg c_18, if_neg c_23, if_pos c_28]), rfl⟩
            · have n_54 : ¬ (mtn σ) ≤ i := fun q => c_54 ((nI_leI (by omega) (by omega)).mpr q)
              refine pr_aload_n hA dX8_cancel_57 rfl ?_
              refine pr_iload hA dX8_cancel_58 rfl ?_
              refine pr_iconst hA (0) dX8_cancel_60 (by decide) ?_
              refine pr_callVi hA [.int (nI i), .int (0 : Int32)] (c_m_tick (m := m) (k := i) (c := 0) (σ := (mf_cancel_it45 σ k i).1) (pr_hl hA) hm (by omega) (by omega)) v_X8_197 (mo_k0 hm) (by decide) rfl rfl rfl (by decide) (Nat.zero_le _) (Nat.zero_le _) rfl (Nat.le_of_ble_eq_true rfl) dX8_cancel_61 ?_
              refine pr_iload_n hA dX8_cancel_64 rfl ?_
              refine pr_icmp_ne hA 146 dX8_cancel_65 (by decide) (fun c_65 => ?_) (fun c_65 => ?_)
              · refine pr_iinc (ls' := [_, _, _, _, _, _]) hA (nI (i + 1)) dX8_cancel_146 (by decide) rfl (nI_inc _) rfl ?_
                refine pr_goto hA 45 dX8_cancel_149 (by decide) ?_
                have hb := ih45 ((mtn σ) - (i + 1)) (by omega) (i + 1) rfl (by omega)
                simp only [mf_cancel_it45, if_neg c_65] at hb
                exact hb
              · refine pr_aload_n hA dX8_cancel_68 rfl ?_
                refine pr_iload hA dX8_cancel_69 rfl ?_
                refine pr_callVi hA [.int (nI i)] (c_m_kept (m := m) (σ := (mf_cancel_it45 σ k i).1) (t := i) (pr_hl hA) hm (by omega)) v_X8_201 (mo_k0 hm) (by decide) rfl rfl rfl (by decide) (Nat.zero_le _) (Nat.zero_le _) rfl (Nat.le_of_ble_eq_true rfl) dX8_cancel_71 ?_
                refine pr_if_ne hA 80 dX8_cancel_74 (by decide) (fun c_74 => ?_) (fun c_74 => ?_)
                · refine pr_iload_n hA dX8_cancel_80 rfl ?_
                  refine pr_iconst hA (2) dX8_cancel_81 (by decide) ?_
                  refine pr_join (c := (σ 1 (264 + 28 * k + 4)) = (2 : Int32)) (J := 103) (st := []) (m_un_r (mf_cancel_it45 σ k i).1 k i) ((mf_cancel_it45 σ k i).1 1 (1384 + 8 * i + 6)) inferInstance (fun kt kf => ?_) ?_
                  · refine pr_icmp_ne hA 95 dX8_cancel_82 (by decide) (fun c_82 => ?_) (fun c_82 => ?_)
                    · refine pr_aload_n hA dX8_cancel_95 rfl ?_
                      refine pr_iload hA dX8_cancel_96 rfl ?_
                      refine pr_bipush hA (6) dX8_cancel_98 (by decide) ?_
                      refine pr_callVi hA [.int (nI i), .int (6 : Int32)] (c_m_tick (m := m) (k := i) (c := 6) (σ := (mf_cancel_it45 σ k i).1) (pr_hl hA) hm (by omega) (by omega)) v_X8_197 (mo_k0 hm) (by decide) rfl rfl rfl (by decide) (Nat.zero_le _) (Nat.zero_le _) rfl (Nat.le_of_ble_eq_true rfl) dX8_cancel_100 ?_
                      exact kf c_82
                    · refine pr_aload_n hA dX8_cancel_85 rfl ?_
                      refine pr_iload_n hA dX8_cancel_86 rfl ?_
                      refine pr_iload hA dX8_cancel_87 rfl ?_
                      have hv89 : mI (mf_cancel_it45 σ k i).1 := (mI_mf_cancel_it45 hI i (by omega))
                      refine pr_callVi hA [.int (nI k), .int (nI i)] (c_m_un (m := m) (σ := (mf_cancel_it45 σ k i).1) (r := k) (t := i) (pr_hl hA) hm hv89 (by first | omega | assumption) (by first | omega | assumption) (hne i (by omega))) v_X8_322 (mo_k0 hm) (by decide) rfl rfl rfl (by decide) (Nat.zero_le _) (Nat.zero_le _) rfl (Nat.le_of_ble_eq_true rfl) dX8_cancel_89 ?_
                      refine pr_goto hA 103 dX8_cancel_92 (by decide) ?_
                      exact kt c_82
                  · refine pr_istore (ls' := [_, _, _, _, _, _]) hA dX8_cancel_103 (by decide) rfl ?_
                    refine pr_aload_n hA dX8_cancel_105 rfl ?_
                    refine pr_iload hA dX8_cancel_106 rfl ?_
                    refine pr_iconst hA (5) dX8_cancel_108 (by decide) ?_
                    refine pr_iconst hA (3) dX8_cancel_109 (by decide) ?_
                    refine pr_callVv hA [.int (nI i), .int (5 : Int32), .int (3 : Int32)] (c_m_putTick (m := m) (k := i) (c := 5) (σ := (mf_cancel_it45 σ k i).1) (pr_hl hA) hm (by omega) (by omega)) v_X8_242 (mo_k0 hm) (by decide) rfl rfl rfl (by decide) (Nat.zero_le _) (Nat.zero_le _) rfl (Nat.le_of_ble_eq_true rfl) dX8_cancel_110 ?_
                    refine pr_aload_n hA dX8_cancel_113 rfl ?_
                    refine pr_iload hA dX8_cancel_114 rfl ?_
                    refine pr_iload hA dX8_cancel_116 rfl ?_
                    refine pr_aload_n hA dX8_cancel_118 rfl ?_
                    refine pr_getR hA f_X8_9 rfl (mo_k0 hm) (mo_f0_0 hm) dX8_cancel_119 ?_
                    refine pr_iconst hA (nI 5) dX8_cancel_122 (by decide) ?_
                    refine pr_ialdM (v := (σ 1 5)) hA (mo_k1 hm) (by omega) (by omega) ((rg_val (by decide)).trans ((pr_upk (by omega)).trans ((fw_mf_cancel_it45 (by decide) (by decide)).trans (pr_upv (by decide))))) dX8_cancel_123 ?_
                    refine pr_imul hA dX8_cancel_124 ?_
                    refine pr_bipush hA (100) dX8_cancel_125 (by decide) ?_
                    refine pr_idiv hA dX8_cancel_127 (by decide) ?_
                    have hv128 : mI (pr_up (mf_cancel_it45 σ k i).1 1 (1384 + 8 * i + 5) (3 : Int32)) := (mI.upn (mI_mf_cancel_it45 hI i (by omega)) ((mW_tick (k := i) (c := 5) (by omega) (by decide)).trans rfl))
                    refine pr_callVv hA [.int (nI i), .int (((if (σ 1 (264 + 28 * k + 4)) = (2 : Int32) then (m_un_r (mf_cancel_it45 σ k i).1 k i) else ((mf_cancel_it45 σ k i).1 1 (1384 + 8 * i + 6))) * (σ 1 5)) / (100 : Int32))] (c_m_gb (m := m) (σ := (pr_up (mf_cancel_it45 σ k i).1 1 (1384 + 8 * i + 5) (3 : Int32))) (t := i) (z := (((if (σ 1 (264 + 28 * k + 4)) = (2 : Int32) then (m_un_r (mf_cancel_it45 σ k i).1 k i) else ((mf_cancel_it45 σ k i).1 1 (1384 + 8 * i + 6))) * (σ 1 5)) / (100 : Int32))) (pr_hl hA) hm hv128 (by first | omega | assumption)) v_X8_257 (mo_k0 hm) (by decide) rfl rfl rfl (by decide) (Nat.zero_le _) (Nat.zero_le _) rfl (Nat.le_of_ble_eq_true rfl) dX8_cancel_128 ?_
                    refine pr_iload_n hA dX8_cancel_131 rfl ?_
                    refine pr_iload hA dX8_cancel_132 rfl ?_
                    refine pr_aload_n hA dX8_cancel_134 rfl ?_
                    refine pr_getR hA f_X8_9 rfl (mo_k0 hm) (mo_f0_0 hm) dX8_cancel_135 ?_
                    refine pr_iconst hA (nI 5) dX8_cancel_138 (by decide) ?_
                    refine pr_ialdM (v := (σ 1 5)) hA (mo_k1 hm) (by omega) (by omega) ((rg_val (by decide)).trans ((fw_m_gb (by decide) (by decide)).trans ((pr_upk (by omega)).trans ((fw_mf_cancel_it45 (by decide) (by decide)).trans (pr_upv (by decide)))))) dX8_cancel_139 ?_
                    refine pr_imul hA dX8_cancel_140 ?_
                    refine pr_bipush hA (100) dX8_cancel_141 (by decide) ?_
                    refine pr_idiv hA dX8_cancel_143 (by decide) ?_
                    refine pr_iadd hA dX8_cancel_144 ?_
                    refine pr_istore_n (ls' := [_, _, _, _, _, _]) hA dX8_cancel_145 (by decide) rfl ?_
                    refine pr_iinc (ls' := [_, _, _, _, _, _]) hA (nI (i + 1)) dX8_cancel_146 (by decide) rfl (nI_inc _) rfl ?_
                    refine pr_goto hA 45 dX8_cancel_149 (by decide) ?_
                    have hb := ih45 ((mtn σ) - (i + 1)) (by omega) (i + 1) rfl (by omega)
                    simp only [mf_cancel_it45, if_pos c_65, if_neg c_74] at hb
                    exact pr_lessL (ls' := [.ref m, .int (nI k), .int (σ 1 (264 + 28 * k + 4)), .int (((mf_cancel_it45 σ k i).2) + (((if (σ 1 (264 + 28 * k + 4)) = (2 : Int32) then (m_un_r (mf_cancel_it45 σ k i).1 k i) else ((mf_cancel_it45 σ k i).1 1 (1384 + 8 * i + 6))) * (σ 1 5)) / (100 : Int32))), .int (nI (i + 1)), .null]) ⟨.inr rfl, .inr rfl, .inr rfl, .inr rfl, .inr rfl, .inl rfl, trivial⟩ hb
                · refine pr_goto hA 146 dX8_cancel_77 (by decide) ?_
                  refine pr_iinc (ls' := [_, _, _, _, _, _]) hA (nI (i + 1)) dX8_cancel_146 (by decide) rfl (nI_inc _) rfl ?_
                  refine pr_goto hA 45 dX8_cancel_149 (by decide) ?_
                  have hb := ih45 ((mtn σ) - (i + 1)) (by omega) (i + 1) rfl (by omega)
                  simp only [mf_cancel_it45, if_pos c_65, if_pos c_74] at hb
                  exact hb
          exact (lp45 ((mtn σ) - 0) 0 rfl (by omega))
        · refine pr_iload_n hA dX8_cancel_31 rfl ?_
          refine pr_bipush hA (7) dX8_cancel_32 (by decide) ?_
          refine pr_icmp_eq hA 40 dX8_cancel_34 (by decide) (fun c_34 => ?_) (fun c_34 => ?_)
          · refine pr_iconst hA (0) dX8_cancel_40 (by decide) ?_
            refine pr_istore_n (ls' := [_, _, _, _, _, _]) hA dX8_cancel_41 (by decide) rfl ?_
            refine pr_iconst hA (nI 0) dX8_cancel_42 (by decide) ?_
            refine pr_istore (ls' := [_, _, _, _, _, _]) hA dX8_cancel_43 (by decide) rfl ?_
            have lp45 : ∀ (j i : Nat), (mtn σ) - i = j → i ≤ (mtn σ) → pr_G g X mX8_cancel.2.2.1 (pr_MQ g X (pr_R (some (.int (mf_cancel_r σ k))) T (rg_put I m 16 (mf_cancel σ k)) L) pr_no 0 0) 0 0 45 [.ref m, .int (nI k), .int (σ 1 (264 + 28 * k + 4)), .int ((mf_cancel_it45 σ k i).2), .int (nI i), .null] [] T (rg_put I m 16 (mf_cancel_it45 σ k i).1) L := by
              intro j
              induction j using Nat.strongRecOn with | ind j ih45 =>
              intro i hj45 hk45
              refine pr_iload hA dX8_cancel_45 rfl ?_
              refine pr_aload_n hA dX8_cancel_47 rfl ?_
              refine pr_getR hA f_X8_9 rfl (mo_k0 hm) (mo_f0_0 hm) dX8_cancel_48 ?_
              refine pr_bipush hA (nI 9) dX8_cancel_51 (by decide) ?_
              refine pr_ialdM (v := (nI (mtn σ))) hA (mo_k1 hm) (by omega) (by omega) ((rg_val (by decide)).trans ((fw_mf_cancel_it45 (by decide) (by decide)).trans ((pr_upv (by decide)).trans (mI_n hI)))) dX8_cancel_53 ?_
              refine pr_icmp_ge hA 152 dX8_cancel_54 (by decide) (fun c_54 => ?_) (fun c_54 => ?_)
              · have n_54 : (mtn σ) ≤ i := (nI_leI (by omega) (by omega)).mp c_54
                have hex : (mtn σ) = i := by omega
                subst hex
                refine pr_aload_n hA dX8_cancel_152 rfl ?_
                refine pr_iload_n hA dX8_cancel_153 rfl ?_
                refine pr_iconst hA (5) dX8_cancel_154 (by decide) ?_
                have hv155 : mI (mf_cancel_it45 σ k (mtn σ)).1 := (mI_mf_cancel_it45 hI (mtn σ) (by omega))
                refine pr_callVv hA [.int (nI k), .int (5 : Int32)] (c_m_st (m := m) (σ := (mf_cancel_it45 σ k (mtn σ)).1) (r := k) (z := (5 : Int32)) (pr_hl hA) hm hv155 (by first | omega | assumption)) v_X8_325 (mo_k0 hm) (by decide) rfl rfl rfl (by decide) (Nat.zero_le _) (Nat.zero_le _) rfl (Nat.le_of_ble_eq_true rfl) dX8_cancel_155 ?_
                refine pr_iload_n hA dX8_cancel_158 rfl ?_
                exact pr_ireturn hA rfl rfl (Nat.zero_le _) (Nat.zero_le _) dX8_cancel_159 ⟨(by simp only [mf_cancel_r, if_neg c_18, if_neg c_23, if_neg c_28, if_pos c_34]), rfl, (by simp only [mf_cancel, if_neg c_18, if_neg c_23, if_neg c_28, if_pos c_34]), rfl⟩
              · have n_54 : ¬ (mtn σ) ≤ i := fun q => c_54 ((nI_leI (by omega) (by omega)).mpr q)
                refine pr_aload_n hA dX8_cancel_57 rfl ?_
                refine pr_iload hA dX8_cancel_58 rfl ?_
                refine pr_iconst hA (0) dX8_cancel_60 (by decide) ?_
                refine pr_callVi hA [.int (nI i), .int (0 : Int32)] (c_m_tick (m := m) (k := i) (c := 0) (σ := (mf_cancel_it45 σ k i).1) (pr_hl hA) hm (by omega) (by omega)) v_X8_197 (mo_k0 hm) (by decide) rfl rfl rfl (by decide) (Nat.zero_le _) (Nat.zero_le _) rfl (Nat.le_of_ble_eq_true rfl) dX8_cancel_61 ?_
                refine pr_iload_n hA dX8_cancel_64 rfl ?_
                refine pr_icmp_ne hA 146 dX8_cancel_65 (by decide) (fun c_65 => ?_) (fun c_65 => ?_)
                · refine pr_iinc (ls' := [_, _, _, _, _, _]) hA (nI (i + 1)) dX8_cancel_146 (by decide) rfl (nI_inc _) rfl ?_
                  refine pr_goto hA 45 dX8_cancel_149 (by decide) ?_
                  have hb := ih45 ((mtn σ) - (i + 1)) (by omega) (i + 1) rfl (by omega)
                  simp only [mf_cancel_it45, if_neg c_65] at hb
                  exact hb
                · refine pr_aload_n hA dX8_cancel_68 rfl ?_
                  refine pr_iload hA dX8_cancel_69 rfl ?_
                  refine pr_callVi hA [.int (nI i)] (c_m_kept (m := m) (σ := (mf_cancel_it45 σ k i).1) (t := i) (pr_hl hA) hm (by omega)) v_X8_201 (mo_k0 hm) (by decide) rfl rfl rfl (by decide) (Nat.zero_le _) (Nat.zero_le _) rfl (Nat.le_of_ble_eq_true rfl) dX8_cancel_71 ?_
                  refine pr_if_ne hA 80 dX8_cancel_74 (by decide) (fun c_74 => ?_) (fun c_74 => ?_)
                  · refine pr_iload_n hA dX8_cancel_80 rfl ?_
                    refine pr_iconst hA (2) dX8_cancel_81 (by decide) ?_
                    refine pr_join (c := (σ 1 (264 + 28 * k + 4)) = (2 : Int32)) (J := 103) (st := []) (m_un_r (mf_cancel_it45 σ k i).1 k i) ((mf_cancel_it45 σ k i).1 1 (1384 + 8 * i + 6)) inferInstance (fun kt kf => ?_) ?_
                    · refine pr_icmp_ne hA 95 dX8_cancel_82 (by decide) (fun c_82 => ?_) (fun c_82 => ?_)
                      · refine pr_aload_n hA dX8_cancel_95 rfl ?_
                        refine pr_iload hA dX8_cancel_96 rfl ?_
                        refine pr_bipush hA (6) dX8_cancel_98 (by decide) ?_
                        refine pr_callVi hA [.int (nI i), .int (6 : Int32)] (c_m_tick (m := m) (k := i) (c := 6) (σ := (mf_cancel_it45 σ k i).1) (pr_hl hA) hm (by omega) (by omega)) v_X8_197 (mo_k0 hm) (by decide) rfl rfl rfl (by decide) (Nat.zero_le _) (Nat.zero_le _) rfl (Nat.le_of_ble_eq_true rfl) dX8_cancel_100 ?_
                        exact kf c_82
                      · refine pr_aload_n hA dX8_cancel_85 rfl ?_
                        refine pr_iload_n hA dX8_cancel_86 rfl ?_
                        refine pr_iload hA dX8_cancel_87 rfl ?_
                        have hv89 : mI (mf_cancel_it45 σ k i).1 := (mI_mf_cancel_it45 hI i (by omega))
                        refine pr_callVi hA [.int (nI k), .int (nI i)] (c_m_un (m := m) (σ := (mf_cancel_it45 σ k i).1) (r := k) (t := i) (pr_hl hA) hm hv89 (by first | omega | assumption) (by first | omega | assumption) (hne i (by omega))) v_X8_322 (mo_k0 hm) (by decide) rfl rfl rfl (by decide) (Nat.zero_le _) (Nat.zero_le _) rfl (Nat.le_of_ble_eq_true rfl) dX8_cancel_89 ?_
                        refine pr_goto hA 103 dX8_cancel_92 (by decide) ?_
                        exact kt c_82
                    · refine pr_istore (ls' := [_, _, _, _, _, _]) hA dX8_cancel_103 (by decide) rfl ?_
                      refine pr_aload_n hA dX8_cancel_105 rfl ?_
                      refine pr_iload hA dX8_cancel_106 rfl ?_
                      refine pr_iconst hA (5) dX8_cancel_108 (by decide) ?_
                      refine pr_iconst hA (3) dX8_cancel_109 (by decide) ?_
                      refine pr_callVv hA [.int (nI i), .int (5 : Int32), .int (3 : Int32)] (c_m_putTick (m := m) (k := i) (c := 5) (σ := (mf_cancel_it45 σ k i).1) (pr_hl hA) hm (by omega) (by omega)) v_X8_242 (mo_k0 hm) (by decide) rfl rfl rfl (by decide) (Nat.zero_le _) (Nat.zero_le _) rfl (Nat.le_of_ble_eq_true rfl) dX8_cancel_110 ?_
                      refine pr_aload_n hA dX8_cancel_113 rfl ?_
                      refine pr_iload hA dX8_cancel_114 rfl ?_
                      refine pr_iload hA dX8_cancel_116 rfl ?_
                      refine pr_aload_n hA dX8_cancel_118 rfl ?_
                      refine pr_getR hA f_X8_9 rfl (mo_k0 hm) (mo_f0_0 hm) dX8_cancel_119 ?_
                      refine pr_iconst hA (nI 5) dX8_cancel_122 (by decide) ?_
                      refine pr_ialdM (v := (σ 1 5)) hA (mo_k1 hm) (by omega) (by omega) ((rg_val (by decide)).trans ((pr_upk (by omega)).trans ((fw_mf_cancel_it45 (by decide) (by decide)).trans (pr_upv (by decide))))) dX8_cancel_123 ?_
                      refine pr_imul hA dX8_cancel_124 ?_
                      refine pr_bipush hA (100) dX8_cancel_125 (by decide) ?_
                      refine pr_idiv hA dX8_cancel_127 (by decide) ?_
                      have hv128 : mI (pr_up (mf_cancel_it45 σ k i).1 1 (1384 + 8 * i + 5) (3 : Int32)) := (mI.upn (mI_mf_cancel_it45 hI i (by omega)) ((mW_tick (k := i) (c := 5) (by omega) (by decide)).trans rfl))
                      refine pr_callVv hA [.int (nI i), .int (((if (σ 1 (264 + 28 * k + 4)) = (2 : Int32) then (m_un_r (mf_cancel_it45 σ k i).1 k i) else ((mf_cancel_it45 σ k i).1 1 (1384 + 8 * i + 6))) * (σ 1 5)) / (100 : Int32))] (c_m_gb (m := m) (σ := (pr_up (mf_cancel_it45 σ k i).1 1 (1384 + 8 * i + 5) (3 : Int32))) (t := i) (z := (((if (σ 1 (264 + 28 * k + 4)) = (2 : Int32) then (m_un_r (mf_cancel_it45 σ k i).1 k i) else ((mf_cancel_it45 σ k i).1 1 (1384 + 8 * i + 6))) * (σ 1 5)) / (100 : Int32))) (pr_hl hA) hm hv128 (by first | omega | assumption)) v_X8_257 (mo_k0 hm) (by decide) rfl rfl rfl (by decide) (Nat.zero_le _) (Nat.zero_le _) rfl (Nat.le_of_ble_eq_true rfl) dX8_cancel_128 ?_
                      refine pr_iload_n hA dX8_cancel_131 rfl ?_
                      refine pr_iload hA dX8_cancel_132 rfl ?_
                      refine pr_aload_n hA dX8_cancel_134 rfl ?_
                      refine pr_getR hA f_X8_9 rfl (mo_k0 hm) (mo_f0_0 hm) dX8_cancel_135 ?_
                      refine pr_iconst hA (nI 5) dX8_cancel_138 (by decide) ?_
                      refine pr_ialdM (v := (σ 1 5)) hA (mo_k1 hm) (by omega) (by omega) ((rg_val (by decide)).trans ((fw_m_gb (by decide) (by decide)).trans ((pr_upk (by omega)).trans ((fw_mf_cancel_it45 (by decide) (by decide)).trans (pr_upv (by decide)))))) dX8_cancel_139 ?_
                      refine pr_imul hA dX8_cancel_140 ?_
                      refine pr_bipush hA (100) dX8_cancel_141 (by decide) ?_
                      refine pr_idiv hA dX8_cancel_143 (by decide) ?_
                      refine pr_iadd hA dX8_cancel_144 ?_
                      refine pr_istore_n (ls' := [_, _, _, _, _, _]) hA dX8_cancel_145 (by decide) rfl ?_
                      refine pr_iinc (ls' := [_, _, _, _, _, _]) hA (nI (i + 1)) dX8_cancel_146 (by decide) rfl (nI_inc _) rfl ?_
                      refine pr_goto hA 45 dX8_cancel_149 (by decide) ?_
                      have hb := ih45 ((mtn σ) - (i + 1)) (by omega) (i + 1) rfl (by omega)
                      simp only [mf_cancel_it45, if_pos c_65, if_neg c_74] at hb
                      exact pr_lessL (ls' := [.ref m, .int (nI k), .int (σ 1 (264 + 28 * k + 4)), .int (((mf_cancel_it45 σ k i).2) + (((if (σ 1 (264 + 28 * k + 4)) = (2 : Int32) then (m_un_r (mf_cancel_it45 σ k i).1 k i) else ((mf_cancel_it45 σ k i).1 1 (1384 + 8 * i + 6))) * (σ 1 5)) / (100 : Int32))), .int (nI (i + 1)), .null]) ⟨.inr rfl, .inr rfl, .inr rfl, .inr rfl, .inr rfl, .inl rfl, trivial⟩ hb
                  · refine pr_goto hA 146 dX8_cancel_77 (by decide) ?_
                    refine pr_iinc (ls' := [_, _, _, _, _, _]) hA (nI (i + 1)) dX8_cancel_146 (by decide) rfl (nI_inc _) rfl ?_
                    refine pr_goto hA 45 dX8_cancel_149 (by decide) ?_
                    have hb := ih45 ((mtn σ) - (i + 1)) (by omega) (i + 1) rfl (by omega)
                    simp only [mf_cancel_it45, if_pos c_65, if_pos c_74] at hb
                    exact hb
            exact (lp45 ((mtn σ) - 0) 0 rfl (by omega))
          · refine pr_bipush hA ((-3)) dX8_cancel_37 (by decide) ?_
            exact pr_ireturn hA rfl rfl (Nat.zero_le _) (Nat.zero_le _) dX8_cancel_39 ⟨(by simp only [mf_cancel_r, if_neg c_18, if_neg c_23, if_neg c_28, if_neg c_34]), rfl, (by simp only [mf_cancel, if_neg c_18, if_neg c_23, if_neg c_28, if_neg c_34]), rfl⟩
  · exact (c_5 (by decide)).elim

theorem fr_mf_cancel {σ : pr_I} {k : Nat} {o : Nat} (hms : ∀ m ∈ ([0, 1] : List Nat), o ≠ m) : mf_cancel σ k o = σ o := by
  unfold mf_cancel
  simp only [List.mem_cons, List.not_mem_nil, or_false, forall_eq_or_imp, forall_eq] at hms
  by_cases c_18 : (σ 1 (264 + 28 * k + 4)) = 0
  · refine (congrFun (if_pos c_18) o).trans ?_
    rw [fr_m_st (by simp only [List.mem_cons, List.not_mem_nil, or_false, forall_eq_or_imp, forall_eq]; omega), fr_mf_cancel_it45 (by simp only [List.mem_cons, List.not_mem_nil, or_false, forall_eq_or_imp, forall_eq]; omega), pr_up_ne (by omega)]
  · refine (congrFun (if_neg c_18) o).trans ?_
    by_cases c_23 : (σ 1 (264 + 28 * k + 4)) = (1 : Int32)
    · refine (congrFun (if_pos c_23) o).trans ?_
      rw [fr_m_st (by simp only [List.mem_cons, List.not_mem_nil, or_false, forall_eq_or_imp, forall_eq]; omega), fr_mf_cancel_it45 (by simp only [List.mem_cons, List.not_mem_nil, or_false, forall_eq_or_imp, forall_eq]; omega), pr_up_ne (by omega)]
    · refine (congrFun (if_neg c_23) o).trans ?_
      by_cases c_28 : (σ 1 (264 + 28 * k + 4)) = (2 : Int32)
      · refine (congrFun (if_pos c_28) o).trans ?_
        rw [fr_m_st (by simp only [List.mem_cons, List.not_mem_nil, or_false, forall_eq_or_imp, forall_eq]; omega), fr_mf_cancel_it45 (by simp only [List.mem_cons, List.not_mem_nil, or_false, forall_eq_or_imp, forall_eq]; omega), pr_up_ne (by omega)]
      · refine (congrFun (if_neg c_28) o).trans ?_
        by_cases c_34 : (σ 1 (264 + 28 * k + 4)) = (7 : Int32)
        · refine (congrFun (if_pos c_34) o).trans ?_
          rw [fr_m_st (by simp only [List.mem_cons, List.not_mem_nil, or_false, forall_eq_or_imp, forall_eq]; omega), fr_mf_cancel_it45 (by simp only [List.mem_cons, List.not_mem_nil, or_false, forall_eq_or_imp, forall_eq]; omega), pr_up_ne (by omega)]
        · refine (congrFun (if_neg c_34) o).trans ?_
          rw [pr_up_ne (by omega)]

theorem fw_mf_cancel {σ : pr_I} {k : Nat} {j0 : Nat} (hj : j0 < 12) (hmw : ∀ m ∈ ([] : List Nat), j0 ≠ m) : mf_cancel σ k 1 j0 = σ 1 j0 := by
  unfold mf_cancel
  by_cases c_18 : (σ 1 (264 + 28 * k + 4)) = 0
  · rw [if_pos c_18]
    exact ((fw_m_st hj (fun m hm => by cases hm)).trans ((fw_mf_cancel_it45 hj (fun m hm => by cases hm)).trans (pr_upv (by decide))))
  · rw [if_neg c_18]
    by_cases c_23 : (σ 1 (264 + 28 * k + 4)) = (1 : Int32)
    · rw [if_pos c_23]
      exact ((fw_m_st hj (fun m hm => by cases hm)).trans ((fw_mf_cancel_it45 hj (fun m hm => by cases hm)).trans (pr_upv (by decide))))
    · rw [if_neg c_23]
      by_cases c_28 : (σ 1 (264 + 28 * k + 4)) = (2 : Int32)
      · rw [if_pos c_28]
        exact ((fw_m_st hj (fun m hm => by cases hm)).trans ((fw_mf_cancel_it45 hj (fun m hm => by cases hm)).trans (pr_upv (by decide))))
      · rw [if_neg c_28]
        by_cases c_34 : (σ 1 (264 + 28 * k + 4)) = (7 : Int32)
        · rw [if_pos c_34]
          exact ((fw_m_st hj (fun m hm => by cases hm)).trans ((fw_mf_cancel_it45 hj (fun m hm => by cases hm)).trans (pr_upv (by decide))))
        · rw [if_neg c_34]
          exact (pr_upv (by decide))
noncomputable def mf_extend_it14 (σ : pr_I) (k : Nat) : Nat → pr_I × Int32
  | 0 => ((pr_up σ 0 6 (0 : Int32)), (0 : Int32))
  | i + 1 => (if ((mf_extend_it14 σ k i).1 1 (1384 + 8 * i + 0)) = (nI k) then (if ((mf_extend_it14 σ k i).1 1 (1384 + 8 * i + 5)) = 0 then ((pr_up (mf_extend_it14 σ k i).1 1 (1384 + 8 * i + 4) (if ((mf_extend_it14 σ k i).1 1 (1384 + 8 * i + 4)) < ((σ 1 0) + (σ 1 1)) then ((σ 1 0) + (σ 1 1)) else ((mf_extend_it14 σ k i).1 1 (1384 + 8 * i + 4)))), (((mf_extend_it14 σ k i).2) + Int32.ofInt (1))) else ((mf_extend_it14 σ k i).1, ((mf_extend_it14 σ k i).2))) else ((mf_extend_it14 σ k i).1, ((mf_extend_it14 σ k i).2)))
theorem fr_mf_extend_it14 {σ : pr_I} {k : Nat} {o : Nat} (hms : ∀ m ∈ ([1] : List Nat), o ≠ m) : ∀ {i : Nat}, (mf_extend_it14 σ k i).1 o = (pr_up σ 0 6 (0 : Int32)) o := by
  simp only [List.mem_cons, List.not_mem_nil, or_false, forall_eq_or_imp, forall_eq] at hms
  intro i
  induction i with
  | zero =>
    show (pr_up σ 0 6 (0 : Int32)) o = (pr_up σ 0 6 (0 : Int32)) o
    rfl
  | succ i ih =>
    by_cases c_32 : ((mf_extend_it14 σ k i).1 1 (1384 + 8 * i + 0)) = (nI k)
    · refine (congrFun (congrArg (fun z : pr_I × Int32 => z.1) (if_pos c_32)) o).trans ?_
      by_cases c_41 : ((mf_extend_it14 σ k i).1 1 (1384 + 8 * i + 5)) = 0
      · refine (congrFun (congrArg (fun z : pr_I × Int32 => z.1) (if_pos c_41)) o).trans ?_
        show (pr_up (mf_extend_it14 σ k i).1 1 (1384 + 8 * i + 4) (if ((mf_extend_it14 σ k i).1 1 (1384 + 8 * i + 4)) < ((σ 1 0) + (σ 1 1)) then ((σ 1 0) + (σ 1 1)) else ((mf_extend_it14 σ k i).1 1 (1384 + 8 * i + 4)))) o = (pr_up σ 0 6 (0 : Int32)) o
        rw [pr_up_ne (by omega), ih]
      · refine (congrFun (congrArg (fun z : pr_I × Int32 => z.1) (if_neg c_41)) o).trans ?_
        show (mf_extend_it14 σ k i).1 o = (pr_up σ 0 6 (0 : Int32)) o
        rw [ih]
    · refine (congrFun (congrArg (fun z : pr_I × Int32 => z.1) (if_neg c_32)) o).trans ?_
      show (mf_extend_it14 σ k i).1 o = (pr_up σ 0 6 (0 : Int32)) o
      rw [ih]
theorem fw_mf_extend_it14 {σ : pr_I} {k : Nat} {j0 : Nat} (hj : j0 < 12) (hmw : ∀ m ∈ ([] : List Nat), j0 ≠ m) : ∀ {i : Nat}, (mf_extend_it14 σ k i).1 1 j0 = (pr_up σ 0 6 (0 : Int32)) 1 j0 := by
  intro i
  induction i with
  | zero => rfl
  | succ i ih =>
    by_cases c_32 : ((mf_extend_it14 σ k i).1 1 (1384 + 8 * i + 0)) = (nI k)
    · refine (congrArg (fun z : pr_I × Int32 => z.1 1 j0) (if_pos c_32)).trans ?_
      by_cases c_41 : ((mf_extend_it14 σ k i).1 1 (1384 + 8 * i + 5)) = 0
      · refine (congrArg (fun z : pr_I × Int32 => z.1 1 j0) (if_pos c_41)).trans ?_
        show (pr_up (mf_extend_it14 σ k i).1 1 (1384 + 8 * i + 4) (if ((mf_extend_it14 σ k i).1 1 (1384 + 8 * i + 4)) < ((σ 1 0) + (σ 1 1)) then ((σ 1 0) + (σ 1 1)) else ((mf_extend_it14 σ k i).1 1 (1384 + 8 * i + 4)))) 1 j0 = (pr_up σ 0 6 (0 : Int32)) 1 j0
        exact ((pr_upk (by omega)).trans ih)
      · refine (congrArg (fun z : pr_I × Int32 => z.1 1 j0) (if_neg c_41)).trans ?_
        show (mf_extend_it14 σ k i).1 1 j0 = (pr_up σ 0 6 (0 : Int32)) 1 j0
        exact ih
    · refine (congrArg (fun z : pr_I × Int32 => z.1 1 j0) (if_neg c_32)).trans ?_
      show (mf_extend_it14 σ k i).1 1 j0 = (pr_up σ 0 6 (0 : Int32)) 1 j0
      exact ih

noncomputable def mf_extend_r (σ : pr_I) (k : Nat) : Int32 := ((mf_extend_it14 σ k (mtn σ)).2)
noncomputable def mf_extend (σ : pr_I) (k : Nat) : pr_I := (mf_extend_it14 σ k (mtn σ)).1
set_option maxRecDepth 100000 in
set_option maxHeartbeats 400000 in
theorem c_mf_extend {g : pr_C} {l : Launch} (hl : l.stackTraces = false) {T : pr_T} {I : pr_I} {L : pr_L} {m : Nat} {σ : pr_I} {k : Nat} (hm : pr_Mo T m) (hI : mI σ) (hk : k < mrn σ) : pr_M g l 11 0 0 mX8_extend [.ref m, .int (nI k)] T (rg_put I m 16 σ) L (pr_R (some (.int (mf_extend_r σ k))) T (rg_put I m 16 (mf_extend σ k)) L) pr_no := by
  refine pr_ofG (by decide) rfl hl (Nat.le_of_ble_eq_true rfl) (fun X hA hX hXn hXt => ?_)
  subst hX
  show pr_G g X mX8_extend.2.2.1 _ 0 0 0 [.ref m, .int (nI k), .null, .null] [] T (rg_put I m 16 σ) L
  have hn5 := mI_n5 hI
  have hr4 := mI_nr4 hI
  have hl24 := mI_nl24 hI
  have hn12 := mI_nn12 hI
  refine pr_aload_n hA dX8_extend_0 rfl ?_
  refine pr_iload_n hA dX8_extend_1 rfl ?_
  have hv2 : mI σ := hI
  refine pr_callVi hA [.int (nI k)] (c_nq_ok (m := m) (σ := σ) (pr_hl hA) hm hv2 (by omega)) v_X8_346 (mo_k0 hm) (by decide) rfl rfl rfl (by decide) (Nat.zero_le _) (Nat.zero_le _) rfl (Nat.le_of_ble_eq_true rfl) dX8_extend_2 ?_
  refine pr_if_eq hA 10 dX8_extend_5 (by decide) (fun c_5 => ?_) (fun c_5 => ?_)
  · refine pr_iconst hA (0) dX8_extend_10 (by decide) ?_
    refine pr_istore_n (ls' := [_, _, _, _]) hA dX8_extend_11 (by decide) rfl ?_
    refine pr_iconst hA (nI 0) dX8_extend_12 (by decide) ?_
    refine pr_istore_n (ls' := [_, _, _, _]) hA dX8_extend_13 (by decide) rfl ?_
    have lp14 : ∀ (j i : Nat), (mtn σ) - i = j → i ≤ (mtn σ) → pr_G g X mX8_extend.2.2.1 (pr_MQ g X (pr_R (some (.int (mf_extend_r σ k))) T (rg_put I m 16 (mf_extend σ k)) L) pr_no 0 0) 0 0 14 [.ref m, .int (nI k), .int ((mf_extend_it14 σ k i).2), .int (nI i)] [] T (rg_put I m 16 (mf_extend_it14 σ k i).1) L := by
      intro j
      induction j using Nat.strongRecOn with | ind j ih14 =>
      intro i hj14 hk14
      refine pr_iload_n hA dX8_extend_14 rfl ?_
      refine pr_aload_n hA dX8_extend_15 rfl ?_
      refine pr_getR hA f_X8_9 rfl (mo_k0 hm) (mo_f0_0 hm) dX8_extend_16 ?_
      refine pr_bipush hA (nI 9) dX8_extend_19 (by decide) ?_
      refine pr_ialdM (v := (nI (mtn σ))) hA (mo_k1 hm) (by omega) (by omega) ((rg_val (by decide)).trans ((fw_mf_extend_it14 (by decide) (by decide)).trans ((pr_upv (by decide)).trans (mI_n hI)))) dX8_extend_21 ?_
      refine pr_icmp_ge hA 84 dX8_extend_22 (by decide) (fun c_22 => ?_) (fun c_22 => ?_)
      · have n_22 : (mtn σ) ≤ i := (nI_leI (by omega) (by omega)).mp c_22
        have hex : (mtn σ) = i := by omega
        subst hex
        refine pr_iload_n hA dX8_extend_84 rfl ?_
        exact pr_ireturn hA rfl rfl (Nat.zero_le _) (Nat.zero_le _) dX8_extend_85 ⟨rfl, rfl, rfl, rfl⟩
      · have n_22 : ¬ (mtn σ) ≤ i := fun q => c_22 ((nI_leI (by omega) (by omega)).mpr q)
        refine pr_aload_n hA dX8_extend_25 rfl ?_
        refine pr_iload_n hA dX8_extend_26 rfl ?_
        refine pr_iconst hA (0) dX8_extend_27 (by decide) ?_
        refine pr_callVi hA [.int (nI i), .int (0 : Int32)] (c_m_tick (m := m) (k := i) (c := 0) (σ := (mf_extend_it14 σ k i).1) (pr_hl hA) hm (by omega) (by omega)) v_X8_197 (mo_k0 hm) (by decide) rfl rfl rfl (by decide) (Nat.zero_le _) (Nat.zero_le _) rfl (Nat.le_of_ble_eq_true rfl) dX8_extend_28 ?_
        refine pr_iload_n hA dX8_extend_31 rfl ?_
        refine pr_icmp_ne hA 78 dX8_extend_32 (by decide) (fun c_32 => ?_) (fun c_32 => ?_)
        · refine pr_iinc (ls' := [_, _, _, _]) hA (nI (i + 1)) dX8_extend_78 (by decide) rfl (nI_inc _) rfl ?_
          refine pr_goto hA 14 dX8_extend_81 (by decide) ?_
          have hb := ih14 ((mtn σ) - (i + 1)) (by omega) (i + 1) rfl (by omega)
          simp only [mf_extend_it14, if_neg c_32] at hb
          exact hb
        · refine pr_aload_n hA dX8_extend_35 rfl ?_
          refine pr_iload_n hA dX8_extend_36 rfl ?_
          refine pr_iconst hA (5) dX8_extend_37 (by decide) ?_
          refine pr_callVi hA [.int (nI i), .int (5 : Int32)] (c_m_tick (m := m) (k := i) (c := 5) (σ := (mf_extend_it14 σ k i).1) (pr_hl hA) hm (by omega) (by omega)) v_X8_197 (mo_k0 hm) (by decide) rfl rfl rfl (by decide) (Nat.zero_le _) (Nat.zero_le _) rfl (Nat.le_of_ble_eq_true rfl) dX8_extend_38 ?_
          refine pr_if_eq hA 47 dX8_extend_41 (by decide) (fun c_41 => ?_) (fun c_41 => ?_)
          · refine pr_aload_n hA dX8_extend_47 rfl ?_
            refine pr_iload_n hA dX8_extend_48 rfl ?_
            refine pr_iconst hA (4) dX8_extend_49 (by decide) ?_
            refine pr_aload_n hA dX8_extend_50 rfl ?_
            refine pr_iload_n hA dX8_extend_51 rfl ?_
            refine pr_iconst hA (4) dX8_extend_52 (by decide) ?_
            refine pr_callVi hA [.int (nI i), .int (4 : Int32)] (c_m_tick (m := m) (k := i) (c := 4) (σ := (mf_extend_it14 σ k i).1) (pr_hl hA) hm (by omega) (by omega)) v_X8_197 (mo_k0 hm) (by decide) rfl rfl rfl (by decide) (Nat.zero_le _) (Nat.zero_le _) rfl (Nat.le_of_ble_eq_true rfl) dX8_extend_53 ?_
            refine pr_aload_n hA dX8_extend_56 rfl ?_
            refine pr_getR hA f_X8_9 rfl (mo_k0 hm) (mo_f0_0 hm) dX8_extend_57 ?_
            refine pr_iconst hA (nI 0) dX8_extend_60 (by decide) ?_
            refine pr_ialdM (v := (σ 1 0)) hA (mo_k1 hm) (by omega) (by omega) ((rg_val (by decide)).trans ((fw_mf_extend_it14 (by decide) (by decide)).trans (pr_upv (by decide)))) dX8_extend_61 ?_
            refine pr_aload_n hA dX8_extend_62 rfl ?_
            refine pr_getR hA f_X8_9 rfl (mo_k0 hm) (mo_f0_0 hm) dX8_extend_63 ?_
            refine pr_iconst hA (nI 1) dX8_extend_66 (by decide) ?_
            refine pr_ialdM (v := (σ 1 1)) hA (mo_k1 hm) (by omega) (by omega) ((rg_val (by decide)).trans ((fw_mf_extend_it14 (by decide) (by decide)).trans (pr_upv (by decide)))) dX8_extend_67 ?_
            refine pr_iadd hA dX8_extend_68 ?_
            refine pr_mmax hA rfl ⟨kM_X8_290, kT_J9_max_7cf53, kZ_J9, kO_J9_max_7cf53⟩ (by decide) (Nat.zero_le _) (Nat.zero_le _) (Nat.le_of_ble_eq_true rfl) dX8_extend_69 ?_
            refine pr_callVv hA [.int (nI i), .int (4 : Int32), .int (if ((mf_extend_it14 σ k i).1 1 (1384 + 8 * i + 4)) < ((σ 1 0) + (σ 1 1)) then ((σ 1 0) + (σ 1 1)) else ((mf_extend_it14 σ k i).1 1 (1384 + 8 * i + 4)))] (c_m_putTick (m := m) (k := i) (c := 4) (σ := (mf_extend_it14 σ k i).1) (pr_hl hA) hm (by omega) (by omega)) v_X8_242 (mo_k0 hm) (by decide) rfl rfl rfl (by decide) (Nat.zero_le _) (Nat.zero_le _) rfl (Nat.le_of_ble_eq_true rfl) dX8_extend_72 ?_
            refine pr_iinc (ls' := [_, _, _, _]) hA (((mf_extend_it14 σ k i).2) + Int32.ofInt (1)) dX8_extend_75 (by decide) rfl rfl rfl ?_
            refine pr_iinc (ls' := [_, _, _, _]) hA (nI (i + 1)) dX8_extend_78 (by decide) rfl (nI_inc _) rfl ?_
            refine pr_goto hA 14 dX8_extend_81 (by decide) ?_
            have hb := ih14 ((mtn σ) - (i + 1)) (by omega) (i + 1) rfl (by omega)
            simp only [mf_extend_it14, if_pos c_32, if_pos c_41] at hb
            exact hb
          · refine pr_goto hA 78 dX8_extend_44 (by decide) ?_
            refine pr_iinc (ls' := [_, _, _, _]) hA (nI (i + 1)) dX8_extend_78 (by decide) rfl (nI_inc _) rfl ?_
            refine pr_goto hA 14 dX8_extend_81 (by decide) ?_
            have hb := ih14 ((mtn σ) - (i + 1)) (by omega) (i + 1) rfl (by omega)
            simp only [mf_extend_it14, if_pos c_32, if_neg c_41] at hb
            exact hb
    exact (lp14 ((mtn σ) - 0) 0 rfl (by omega))
  · exact (c_5 (by decide)).elim

theorem fr_mf_extend {σ : pr_I} {k : Nat} {o : Nat} (hms : ∀ m ∈ ([0, 1] : List Nat), o ≠ m) : mf_extend σ k o = σ o := by
  unfold mf_extend
  simp only [List.mem_cons, List.not_mem_nil, or_false, forall_eq_or_imp, forall_eq] at hms
  rw [fr_mf_extend_it14 (by simp only [List.mem_cons, List.not_mem_nil, or_false, forall_eq_or_imp, forall_eq]; omega), pr_up_ne (by omega)]

theorem fw_mf_extend {σ : pr_I} {k : Nat} {j0 : Nat} (hj : j0 < 12) (hmw : ∀ m ∈ ([] : List Nat), j0 ≠ m) : mf_extend σ k 1 j0 = σ 1 j0 := by
  unfold mf_extend
  exact ((fw_mf_extend_it14 hj (fun m hm => by cases hm)).trans (pr_upv (by decide)))
noncomputable def mf_requestValue_r (σ : pr_I) (k : Nat) (c : Nat) : Int32 := (σ 1 (264 + 28 * k + c))
noncomputable def mf_requestValue (σ : pr_I) (k : Nat) (c : Nat) : pr_I := (pr_up σ 0 6 (0 : Int32))
set_option maxRecDepth 100000 in
set_option maxHeartbeats 400000 in
theorem c_mf_requestValue {g : pr_C} {l : Launch} (hl : l.stackTraces = false) {T : pr_T} {I : pr_I} {L : pr_L} {m : Nat} {σ : pr_I} {k : Nat} {c : Nat} (hm : pr_Mo T m) (hI : mI σ) (hk : k < mrn σ) (hc : c ≤ 12) : pr_M g l 11 0 0 mX8_requestValue [.ref m, .int (nI k), .int (nI c)] T (rg_put I m 16 σ) L (pr_R (some (.int (mf_requestValue_r σ k c))) T (rg_put I m 16 (mf_requestValue σ k c)) L) pr_no := by
  refine pr_ofG (by decide) rfl hl (Nat.le_of_ble_eq_true rfl) (fun X hA hX hXn hXt => ?_)
  subst hX
  show pr_G g X mX8_requestValue.2.2.1 _ 0 0 0 [.ref m, .int (nI k), .int (nI c)] [] T (rg_put I m 16 σ) L
  have hn5 := mI_n5 hI
  have hr4 := mI_nr4 hI
  have hl24 := mI_nl24 hI
  have hn12 := mI_nn12 hI
  refine pr_aload_n hA dX8_requestValue_0 rfl ?_
  refine pr_iload_n hA dX8_requestValue_1 rfl ?_
  have hv2 : mI σ := hI
  refine pr_callVi hA [.int (nI k)] (c_nq_ok (m := m) (σ := σ) (pr_hl hA) hm hv2 (by omega)) v_X8_346 (mo_k0 hm) (by decide) rfl rfl rfl (by decide) (Nat.zero_le _) (Nat.zero_le _) rfl (Nat.le_of_ble_eq_true rfl) dX8_requestValue_2 ?_
  refine pr_if_ne hA 33 dX8_requestValue_5 (by decide) (fun c_5 => ?_) (fun c_5 => ?_)
  · exact (c_5 (by decide)).elim
  · refine pr_aload_n hA dX8_requestValue_8 rfl ?_
    refine pr_iload_n hA dX8_requestValue_9 rfl ?_
    refine pr_i2l hA dX8_requestValue_10 ?_
    refine pr_lconst hA 0 dX8_requestValue_11 (by decide) ?_
    refine pr_ldc2 hA kK_X8_349 dX8_requestValue_12 ?_
    refine pr_callSi hA [.long (((nI c)).toInt64), .long (0 : Int64), .long (12 : Int64)] (c_inE (m := m) (σ := (pr_up σ 0 6 (0 : Int32))) (v := 1) (pr_hl hA) hm (in_c1 (B := 12) (by omega) (by decide) (by decide))) s_X8_80 rfl (by decide) (Nat.zero_le _) (Nat.zero_le _) rfl (Nat.le_of_ble_eq_true rfl) dX8_requestValue_15 ?_
    refine pr_if_ne hA 25 dX8_requestValue_18 (by decide) (fun c_18 => ?_) (fun c_18 => ?_)
    · refine pr_iconst hA (0) dX8_requestValue_25 (by decide) ?_
      refine pr_iconst hA (2) dX8_requestValue_26 (by decide) ?_
      refine pr_callVi hA [.int (0 : Int32), .int (2 : Int32)] (c_tiE (m := m) (σ := (pr_up σ 0 6 (0 : Int32))) (pr_hl hA) hm (ti_0 pr_upe)) v_X8_301 (mo_k0 hm) (by decide) rfl rfl rfl (by decide) (Nat.zero_le _) (Nat.zero_le _) rfl (Nat.le_of_ble_eq_true rfl) dX8_requestValue_27 ?_
      refine pr_if_eq hA 37 dX8_requestValue_30 (by decide) (fun c_30 => ?_) (fun c_30 => ?_)
      · refine pr_aload_n hA dX8_requestValue_37 rfl ?_
        refine pr_iload_n hA dX8_requestValue_38 rfl ?_
        refine pr_iload_n hA dX8_requestValue_39 rfl ?_
        refine pr_callVi hA [.int (nI k), .int (nI c)] (c_m_req (m := m) (k := k) (c := c) (σ := (pr_up σ 0 6 (0 : Int32))) (pr_hl hA) hm (by omega) (by omega)) v_X8_229 (mo_k0 hm) (by decide) rfl rfl rfl (by decide) (Nat.zero_le _) (Nat.zero_le _) rfl (Nat.le_of_ble_eq_true rfl) dX8_requestValue_40 ?_
        rw [show ((pr_up σ 0 6 (0 : Int32)) 1 (264 + 28 * k + c)) = (σ 1 (264 + 28 * k + c)) from (pr_upv (by decide))]
        exact pr_ireturn hA rfl rfl (Nat.zero_le _) (Nat.zero_le _) dX8_requestValue_43 ⟨rfl, rfl, rfl, rfl⟩
      · exact (c_30 (by decide)).elim
    · exact absurd c_18 (by decide)

theorem fr_mf_requestValue {σ : pr_I} {k : Nat} {c : Nat} {o : Nat} (hms : ∀ m ∈ ([0] : List Nat), o ≠ m) : mf_requestValue σ k c o = σ o := by
  unfold mf_requestValue
  simp only [List.mem_cons, List.not_mem_nil, or_false, forall_eq_or_imp, forall_eq] at hms
  rw [pr_up_ne (by omega)]

noncomputable def mf_pathLength_r (σ : pr_I) (k : Nat) : Int32 := (σ 1 (264 + 28 * k + 13))
noncomputable def mf_pathLength (σ : pr_I) (k : Nat) : pr_I := (pr_up σ 0 6 (0 : Int32))
set_option maxRecDepth 100000 in
set_option maxHeartbeats 400000 in
theorem c_mf_pathLength {g : pr_C} {l : Launch} (hl : l.stackTraces = false) {T : pr_T} {I : pr_I} {L : pr_L} {m : Nat} {σ : pr_I} {k : Nat} (hm : pr_Mo T m) (hI : mI σ) (hk : k < mrn σ) : pr_M g l 11 0 0 mX8_pathLength [.ref m, .int (nI k)] T (rg_put I m 16 σ) L (pr_R (some (.int (mf_pathLength_r σ k))) T (rg_put I m 16 (mf_pathLength σ k)) L) pr_no := by
  refine pr_ofG (by decide) rfl hl (Nat.le_of_ble_eq_true rfl) (fun X hA hX hXn hXt => ?_)
  subst hX
  show pr_G g X mX8_pathLength.2.2.1 _ 0 0 0 [.ref m, .int (nI k)] [] T (rg_put I m 16 σ) L
  have hn5 := mI_n5 hI
  have hr4 := mI_nr4 hI
  have hl24 := mI_nl24 hI
  have hn12 := mI_nn12 hI
  refine pr_aload_n hA dX8_pathLength_0 rfl ?_
  refine pr_iload_n hA dX8_pathLength_1 rfl ?_
  have hv2 : mI σ := hI
  refine pr_callVi hA [.int (nI k)] (c_nq_ok (m := m) (σ := σ) (pr_hl hA) hm hv2 (by omega)) v_X8_346 (mo_k0 hm) (by decide) rfl rfl rfl (by decide) (Nat.zero_le _) (Nat.zero_le _) rfl (Nat.le_of_ble_eq_true rfl) dX8_pathLength_2 ?_
  refine pr_if_eq hA 12 dX8_pathLength_5 (by decide) (fun c_5 => ?_) (fun c_5 => ?_)
  · refine pr_aload_n hA dX8_pathLength_12 rfl ?_
    refine pr_iload_n hA dX8_pathLength_13 rfl ?_
    refine pr_bipush hA (13) dX8_pathLength_14 (by decide) ?_
    refine pr_callVi hA [.int (nI k), .int (13 : Int32)] (c_m_req (m := m) (k := k) (c := 13) (σ := (pr_up σ 0 6 (0 : Int32))) (pr_hl hA) hm (by omega) (by omega)) v_X8_229 (mo_k0 hm) (by decide) rfl rfl rfl (by decide) (Nat.zero_le _) (Nat.zero_le _) rfl (Nat.le_of_ble_eq_true rfl) dX8_pathLength_16 ?_
    rw [show ((pr_up σ 0 6 (0 : Int32)) 1 (264 + 28 * k + 13)) = (σ 1 (264 + 28 * k + 13)) from (pr_upv (by decide))]
    exact pr_ireturn hA rfl rfl (Nat.zero_le _) (Nat.zero_le _) dX8_pathLength_19 ⟨rfl, rfl, rfl, rfl⟩
  · exact (c_5 (by decide)).elim

theorem fr_mf_pathLength {σ : pr_I} {k : Nat} {o : Nat} (hms : ∀ m ∈ ([0] : List Nat), o ≠ m) : mf_pathLength σ k o = σ o := by
  unfold mf_pathLength
  simp only [List.mem_cons, List.not_mem_nil, or_false, forall_eq_or_imp, forall_eq] at hms
  rw [pr_up_ne (by omega)]

theorem pl_in2 {σ : pr_I} {z L : Int32} {n : Nat} (hn : n < 2 ^ 30) (hL : vp_in L (n + 1)) (h : ¬ m_in_r σ z.toInt64 0 (L - 1).toInt64 = 0) : vp_in z n := by
  obtain ⟨j, hj, rfl⟩ := vp_in_of hL (by omega)
  rcases Classical.em (vp_in z j) with c | c
  · exact vp_in_mono c (by omega)
  · exact absurd (inK0 c (by omega)) h
noncomputable def mf_pathLink_r (σ : pr_I) (k : Nat) (z : Int32) : Int32 := (if (m_in_r (pr_up σ 0 6 (0 : Int32)) ((z).toInt64) (0 : Int64) ((((σ 1 (264 + 28 * k + 13)) - (1 : Int32))).toInt64)) = 0 then ((-1) : Int32) else (σ 1 (264 + 28 * k + (15 + z.toNatClampNeg))))
noncomputable def mf_pathLink (σ : pr_I) (k : Nat) (z : Int32) : pr_I := (if (m_in_r (pr_up σ 0 6 (0 : Int32)) ((z).toInt64) (0 : Int64) ((((σ 1 (264 + 28 * k + 13)) - (1 : Int32))).toInt64)) = 0 then (pr_up σ 0 6 (0 : Int32)) else (pr_up σ 0 6 (0 : Int32)))
set_option maxRecDepth 100000 in
set_option maxHeartbeats 400000 in
theorem c_mf_pathLink {g : pr_C} {l : Launch} (hl : l.stackTraces = false) {T : pr_T} {I : pr_I} {L : pr_L} {m : Nat} {σ : pr_I} {k : Nat} {z : Int32} (hm : pr_Mo T m) (hI : mI σ) (hk : k < mrn σ) : pr_M g l 11 0 0 mX8_pathLink [.ref m, .int (nI k), .int z] T (rg_put I m 16 σ) L (pr_R (some (.int (mf_pathLink_r σ k z))) T (rg_put I m 16 (mf_pathLink σ k z)) L) pr_no := by
  refine pr_ofG (by decide) rfl hl (Nat.le_of_ble_eq_true rfl) (fun X hA hX hXn hXt => ?_)
  subst hX
  show pr_G g X mX8_pathLink.2.2.1 _ 0 0 0 [.ref m, .int (nI k), .int z] [] T (rg_put I m 16 σ) L
  have hn5 := mI_n5 hI
  have hr4 := mI_nr4 hI
  have hl24 := mI_nl24 hI
  have hn12 := mI_nn12 hI
  refine pr_aload_n hA dX8_pathLink_0 rfl ?_
  refine pr_iload_n hA dX8_pathLink_1 rfl ?_
  have hv2 : mI σ := hI
  refine pr_callVi hA [.int (nI k)] (c_nq_ok (m := m) (σ := σ) (pr_hl hA) hm hv2 (by omega)) v_X8_346 (mo_k0 hm) (by decide) rfl rfl rfl (by decide) (Nat.zero_le _) (Nat.zero_le _) rfl (Nat.le_of_ble_eq_true rfl) dX8_pathLink_2 ?_
  refine pr_if_eq hA 10 dX8_pathLink_5 (by decide) (fun c_5 => ?_) (fun c_5 => ?_)
  · refine pr_iload_n hA dX8_pathLink_10 rfl ?_
    refine pr_i2l hA dX8_pathLink_11 ?_
    refine pr_lconst hA 0 dX8_pathLink_12 (by decide) ?_
    refine pr_aload_n hA dX8_pathLink_13 rfl ?_
    refine pr_iload_n hA dX8_pathLink_14 rfl ?_
    refine pr_bipush hA (13) dX8_pathLink_15 (by decide) ?_
    refine pr_callVi hA [.int (nI k), .int (13 : Int32)] (c_m_req (m := m) (k := k) (c := 13) (σ := (pr_up σ 0 6 (0 : Int32))) (pr_hl hA) hm (by omega) (by omega)) v_X8_229 (mo_k0 hm) (by decide) rfl rfl rfl (by decide) (Nat.zero_le _) (Nat.zero_le _) rfl (Nat.le_of_ble_eq_true rfl) dX8_pathLink_17 ?_
    rw [show ((pr_up σ 0 6 (0 : Int32)) 1 (264 + 28 * k + 13)) = (σ 1 (264 + 28 * k + 13)) from (pr_upv (by decide))]
    refine pr_iconst hA (1) dX8_pathLink_20 (by decide) ?_
    refine pr_isub hA dX8_pathLink_21 ?_
    refine pr_i2l hA dX8_pathLink_22 ?_
    refine pr_callSi hA [.long ((z).toInt64), .long (0 : Int64), .long ((((σ 1 (264 + 28 * k + 13)) - (1 : Int32))).toInt64)] (c_m_in (m := m) (σ := (pr_up σ 0 6 (0 : Int32))) (a := (z).toInt64) (b := (0 : Int64)) (c := (((σ 1 (264 + 28 * k + 13)) - (1 : Int32))).toInt64) (pr_hl hA) hm) s_X8_80 rfl (by decide) (Nat.zero_le _) (Nat.zero_le _) rfl (Nat.le_of_ble_eq_true rfl) dX8_pathLink_23 ?_
    refine pr_if_eq hA 41 dX8_pathLink_26 (by decide) (fun c_26 => ?_) (fun c_26 => ?_)
    · refine pr_iconst hA ((-1)) dX8_pathLink_41 (by decide) ?_
      exact pr_ireturn hA rfl rfl (Nat.zero_le _) (Nat.zero_le _) dX8_pathLink_42 ⟨(by simp only [mf_pathLink_r, if_pos c_26]), rfl, (by simp only [mf_pathLink, if_pos c_26]), rfl⟩
    · have hz11 : vp_in z 11 := pl_in2 (by decide) (mI_req hI (k := k) (c := 13) (by omega) (by decide) rfl) c_26
      have hz1 := vp_in_lt hz11
      refine pr_aload_n hA dX8_pathLink_29 rfl ?_
      refine pr_iload_n hA dX8_pathLink_30 rfl ?_
      refine pr_bipush hA (nI 15) dX8_pathLink_31 (by decide) ?_
      refine pr_iload_n hA dX8_pathLink_33 rfl ?_
      refine pr_iadd hA dX8_pathLink_34 ?_
      rw [show ((nI 15) + z) = (nI (15 + z.toNatClampNeg)) from (nI_addx hz11 (by decide))]
      refine pr_callVi hA [.int (nI k), .int (nI (15 + z.toNatClampNeg))] (c_m_req (m := m) (k := k) (c := (15 + z.toNatClampNeg)) (σ := (pr_up σ 0 6 (0 : Int32))) (pr_hl hA) hm (by omega) (by omega)) v_X8_229 (mo_k0 hm) (by decide) rfl rfl rfl (by decide) (Nat.zero_le _) (Nat.zero_le _) rfl (Nat.le_of_ble_eq_true rfl) dX8_pathLink_35 ?_
      rw [show ((pr_up σ 0 6 (0 : Int32)) 1 (264 + 28 * k + (15 + z.toNatClampNeg))) = (σ 1 (264 + 28 * k + (15 + z.toNatClampNeg))) from (pr_upv (by decide))]
      refine pr_goto hA 42 dX8_pathLink_38 (by decide) ?_
      exact pr_ireturn hA rfl rfl (Nat.zero_le _) (Nat.zero_le _) dX8_pathLink_42 ⟨(by simp only [mf_pathLink_r, if_neg c_26]), rfl, (by simp only [mf_pathLink, if_neg c_26]), rfl⟩
  · exact (c_5 (by decide)).elim

theorem fr_mf_pathLink {σ : pr_I} {k : Nat} {z : Int32} {o : Nat} (hms : ∀ m ∈ ([0] : List Nat), o ≠ m) : mf_pathLink σ k z o = σ o := by
  unfold mf_pathLink
  simp only [List.mem_cons, List.not_mem_nil, or_false, forall_eq_or_imp, forall_eq] at hms
  by_cases c_26 : (m_in_r (pr_up σ 0 6 (0 : Int32)) ((z).toInt64) (0 : Int64) ((((σ 1 (264 + 28 * k + 13)) - (1 : Int32))).toInt64)) = 0
  · refine (congrFun (if_pos c_26) o).trans ?_
    rw [pr_up_ne (by omega)]
  · refine (congrFun (if_neg c_26) o).trans ?_
    rw [pr_up_ne (by omega)]

noncomputable def mf_placeOf_r (σ : pr_I) (k : Nat) : Int32 := (if (1 : Int32) < (σ 1 (264 + 28 * k + 4)) then ((-1) : Int32) else (σ 1 (264 + 28 * k + 14)))
noncomputable def mf_placeOf (σ : pr_I) (k : Nat) : pr_I := (pr_up σ 0 6 (0 : Int32))
set_option maxRecDepth 100000 in
set_option maxHeartbeats 400000 in
theorem c_mf_placeOf {g : pr_C} {l : Launch} (hl : l.stackTraces = false) {T : pr_T} {I : pr_I} {L : pr_L} {m : Nat} {σ : pr_I} {k : Nat} (hm : pr_Mo T m) (hI : mI σ) (hk : k < mrn σ) : pr_M g l 11 0 0 mX8_placeOf [.ref m, .int (nI k)] T (rg_put I m 16 σ) L (pr_R (some (.int (mf_placeOf_r σ k))) T (rg_put I m 16 (mf_placeOf σ k)) L) pr_no := by
  refine pr_ofG (by decide) rfl hl (Nat.le_of_ble_eq_true rfl) (fun X hA hX hXn hXt => ?_)
  subst hX
  show pr_G g X mX8_placeOf.2.2.1 _ 0 0 0 [.ref m, .int (nI k)] [] T (rg_put I m 16 σ) L
  have hn5 := mI_n5 hI
  have hr4 := mI_nr4 hI
  have hl24 := mI_nl24 hI
  have hn12 := mI_nn12 hI
  refine pr_aload_n hA dX8_placeOf_0 rfl ?_
  refine pr_iload_n hA dX8_placeOf_1 rfl ?_
  have hv2 : mI σ := hI
  refine pr_callVi hA [.int (nI k)] (c_nq_ok (m := m) (σ := σ) (pr_hl hA) hm hv2 (by omega)) v_X8_346 (mo_k0 hm) (by decide) rfl rfl rfl (by decide) (Nat.zero_le _) (Nat.zero_le _) rfl (Nat.le_of_ble_eq_true rfl) dX8_placeOf_2 ?_
  refine pr_if_eq hA 10 dX8_placeOf_5 (by decide) (fun c_5 => ?_) (fun c_5 => ?_)
  · refine pr_aload_n hA dX8_placeOf_10 rfl ?_
    refine pr_iload_n hA dX8_placeOf_11 rfl ?_
    refine pr_iconst hA (4) dX8_placeOf_12 (by decide) ?_
    refine pr_callVi hA [.int (nI k), .int (4 : Int32)] (c_m_req (m := m) (k := k) (c := 4) (σ := (pr_up σ 0 6 (0 : Int32))) (pr_hl hA) hm (by omega) (by omega)) v_X8_229 (mo_k0 hm) (by decide) rfl rfl rfl (by decide) (Nat.zero_le _) (Nat.zero_le _) rfl (Nat.le_of_ble_eq_true rfl) dX8_placeOf_13 ?_
    rw [show ((pr_up σ 0 6 (0 : Int32)) 1 (264 + 28 * k + 4)) = (σ 1 (264 + 28 * k + 4)) from (pr_upv (by decide))]
    refine pr_iconst hA (1) dX8_placeOf_16 (by decide) ?_
    refine pr_join (c := (1 : Int32) < (σ 1 (264 + 28 * k + 4))) (J := 31) (st := []) ((-1) : Int32) (σ 1 (264 + 28 * k + 14)) inferInstance (fun kt kf => ?_) ?_
    · refine pr_icmp_gt hA 30 dX8_placeOf_17 (by decide) (fun c_17 => ?_) (fun c_17 => ?_)
      · refine pr_iconst hA ((-1)) dX8_placeOf_30 (by decide) ?_
        exact kt c_17
      · refine pr_aload_n hA dX8_placeOf_20 rfl ?_
        refine pr_iload_n hA dX8_placeOf_21 rfl ?_
        refine pr_bipush hA (14) dX8_placeOf_22 (by decide) ?_
        refine pr_callVi hA [.int (nI k), .int (14 : Int32)] (c_m_req (m := m) (k := k) (c := 14) (σ := (pr_up σ 0 6 (0 : Int32))) (pr_hl hA) hm (by omega) (by omega)) v_X8_229 (mo_k0 hm) (by decide) rfl rfl rfl (by decide) (Nat.zero_le _) (Nat.zero_le _) rfl (Nat.le_of_ble_eq_true rfl) dX8_placeOf_24 ?_
        rw [show ((pr_up σ 0 6 (0 : Int32)) 1 (264 + 28 * k + 14)) = (σ 1 (264 + 28 * k + 14)) from (pr_upv (by decide))]
        refine pr_goto hA 31 dX8_placeOf_27 (by decide) ?_
        exact kf c_17
    · exact pr_ireturn hA rfl rfl (Nat.zero_le _) (Nat.zero_le _) dX8_placeOf_31 ⟨rfl, rfl, rfl, rfl⟩
  · exact (c_5 (by decide)).elim

theorem fr_mf_placeOf {σ : pr_I} {k : Nat} {o : Nat} (hms : ∀ m ∈ ([0] : List Nat), o ≠ m) : mf_placeOf σ k o = σ o := by
  unfold mf_placeOf
  simp only [List.mem_cons, List.not_mem_nil, or_false, forall_eq_or_imp, forall_eq] at hms
  rw [pr_up_ne (by omega)]

noncomputable def mf_inState_r (σ : pr_I) (c : Nat) : Int32 := (m_many_r (pr_up σ 0 6 (0 : Int32)) (nI c))
noncomputable def mf_inState (σ : pr_I) (c : Nat) : pr_I := (pr_up σ 0 6 (0 : Int32))
set_option maxRecDepth 100000 in
set_option maxHeartbeats 400000 in
theorem c_mf_inState {g : pr_C} {l : Launch} (hl : l.stackTraces = false) {T : pr_T} {I : pr_I} {L : pr_L} {m : Nat} {σ : pr_I} {c : Nat} (hm : pr_Mo T m) (hI : mI σ) (hc : c ≤ 7) : pr_M g l 11 0 0 mX8_inState [.ref m, .int (nI c)] T (rg_put I m 16 σ) L (pr_R (some (.int (mf_inState_r σ c))) T (rg_put I m 16 (mf_inState σ c)) L) pr_no := by
  refine pr_ofG (by decide) rfl hl (Nat.le_of_ble_eq_true rfl) (fun X hA hX hXn hXt => ?_)
  subst hX
  show pr_G g X mX8_inState.2.2.1 _ 0 0 0 [.ref m, .int (nI c)] [] T (rg_put I m 16 σ) L
  have hn5 := mI_n5 hI
  have hr4 := mI_nr4 hI
  have hl24 := mI_nl24 hI
  have hn12 := mI_nn12 hI
  refine pr_aload_n hA dX8_inState_0 rfl ?_
  refine pr_iconst hA (0) dX8_inState_1 (by decide) ?_
  refine pr_putE (I' := (rg_put I m 16 (pr_up σ 0 6 (0 : Int32)))) hA f_X8_60 rfl (mo_k0 hm) (rg_up0 (by decide)) dX8_inState_2 ?_
  refine pr_aload_n hA dX8_inState_5 rfl ?_
  refine pr_iload_n hA dX8_inState_6 rfl ?_
  refine pr_i2l hA dX8_inState_7 ?_
  refine pr_lconst hA 0 dX8_inState_8 (by decide) ?_
  refine pr_ldc2 hA kK_X8_351 dX8_inState_9 ?_
  refine pr_callSi hA [.long (((nI c)).toInt64), .long (0 : Int64), .long (7 : Int64)] (c_inE (m := m) (σ := (pr_up σ 0 6 (0 : Int32))) (v := 1) (pr_hl hA) hm (in_c1 (B := 7) (by omega) (by decide) (by decide))) s_X8_80 rfl (by decide) (Nat.zero_le _) (Nat.zero_le _) rfl (Nat.le_of_ble_eq_true rfl) dX8_inState_12 ?_
  refine pr_if_ne hA 22 dX8_inState_15 (by decide) (fun c_15 => ?_) (fun c_15 => ?_)
  · refine pr_iconst hA (0) dX8_inState_22 (by decide) ?_
    refine pr_iconst hA (1) dX8_inState_23 (by decide) ?_
    refine pr_callVi hA [.int (0 : Int32), .int (1 : Int32)] (c_tiE (m := m) (σ := (pr_up σ 0 6 (0 : Int32))) (pr_hl hA) hm (ti_0 pr_upe)) v_X8_301 (mo_k0 hm) (by decide) rfl rfl rfl (by decide) (Nat.zero_le _) (Nat.zero_le _) rfl (Nat.le_of_ble_eq_true rfl) dX8_inState_24 ?_
    refine pr_if_eq hA 34 dX8_inState_27 (by decide) (fun c_27 => ?_) (fun c_27 => ?_)
    · refine pr_aload_n hA dX8_inState_34 rfl ?_
      refine pr_iload_n hA dX8_inState_35 rfl ?_
      have hv36 : mI (pr_up σ 0 6 (0 : Int32)) := (mI.upn hI rfl)
      refine pr_callVi hA [.int (nI c)] (c_m_many (m := m) (σ := (pr_up σ 0 6 (0 : Int32))) (s := (nI c)) (pr_hl hA) hm hv36) v_X8_353 (mo_k0 hm) (by decide) rfl rfl rfl (by decide) (Nat.zero_le _) (Nat.zero_le _) rfl (Nat.le_of_ble_eq_true rfl) dX8_inState_36 ?_
      exact pr_ireturn hA rfl rfl (Nat.zero_le _) (Nat.zero_le _) dX8_inState_39 ⟨rfl, rfl, rfl, rfl⟩
    · exact (c_27 (by decide)).elim
  · exact absurd c_15 (by decide)

theorem fr_mf_inState {σ : pr_I} {c : Nat} {o : Nat} (hms : ∀ m ∈ ([0] : List Nat), o ≠ m) : mf_inState σ c o = σ o := by
  unfold mf_inState
  simp only [List.mem_cons, List.not_mem_nil, or_false, forall_eq_or_imp, forall_eq] at hms
  rw [pr_up_ne (by omega)]

noncomputable def mf_requestInState_rl37 (σ : pr_I) (c : Nat) (i : Int32) : Nat → Nat → Int32 → Int32
  | 0, _, _ => 0
  | j + 1, k, x3 => (if (nI (mrn σ)) ≤ (nI k) then ((-1) : Int32) else (if (σ 1 (264 + 28 * k + 4)) = (nI c) then (if x3 = 0 then (nI k) else (mf_requestInState_rl37 σ c i j (k + 1) (x3 + Int32.ofInt (-1)))) else (mf_requestInState_rl37 σ c i j (k + 1) x3)))
noncomputable def mf_requestInState_r (σ : pr_I) (c : Nat) (i : Int32) : Int32 := (mf_requestInState_rl37 σ c i ((mrn σ) + 1) 0 i)
noncomputable def mf_requestInState (σ : pr_I) (c : Nat) (i : Int32) : pr_I := (pr_up σ 0 6 (0 : Int32))
set_option maxRecDepth 100000 in
set_option maxHeartbeats 400000 in
theorem c_mf_requestInState {g : pr_C} {l : Launch} (hl : l.stackTraces = false) {T : pr_T} {I : pr_I} {L : pr_L} {m : Nat} {σ : pr_I} {c : Nat} {i : Int32} (hm : pr_Mo T m) (hI : mI σ) (hc : c ≤ 7) : pr_M g l 11 0 0 mX8_requestInState [.ref m, .int (nI c), .int i] T (rg_put I m 16 σ) L (pr_R (some (.int (mf_requestInState_r σ c i))) T (rg_put I m 16 (mf_requestInState σ c i)) L) pr_no := by
  refine pr_ofG (by decide) rfl hl (Nat.le_of_ble_eq_true rfl) (fun X hA hX hXn hXt => ?_)
  subst hX
  show pr_G g X mX8_requestInState.2.2.1 _ 0 0 0 [.ref m, .int (nI c), .int i, .null, .null] [] T (rg_put I m 16 σ) L
  have hn5 := mI_n5 hI
  have hr4 := mI_nr4 hI
  have hl24 := mI_nl24 hI
  have hn12 := mI_nn12 hI
  refine pr_aload_n hA dX8_requestInState_0 rfl ?_
  refine pr_iconst hA (0) dX8_requestInState_1 (by decide) ?_
  refine pr_putE (I' := (rg_put I m 16 (pr_up σ 0 6 (0 : Int32)))) hA f_X8_60 rfl (mo_k0 hm) (rg_up0 (by decide)) dX8_requestInState_2 ?_
  refine pr_aload_n hA dX8_requestInState_5 rfl ?_
  refine pr_iload_n hA dX8_requestInState_6 rfl ?_
  refine pr_i2l hA dX8_requestInState_7 ?_
  refine pr_lconst hA 0 dX8_requestInState_8 (by decide) ?_
  refine pr_ldc2 hA kK_X8_351 dX8_requestInState_9 ?_
  refine pr_callSi hA [.long (((nI c)).toInt64), .long (0 : Int64), .long (7 : Int64)] (c_inE (m := m) (σ := (pr_up σ 0 6 (0 : Int32))) (v := 1) (pr_hl hA) hm (in_c1 (B := 7) (by omega) (by decide) (by decide))) s_X8_80 rfl (by decide) (Nat.zero_le _) (Nat.zero_le _) rfl (Nat.le_of_ble_eq_true rfl) dX8_requestInState_12 ?_
  refine pr_if_ne hA 22 dX8_requestInState_15 (by decide) (fun c_15 => ?_) (fun c_15 => ?_)
  · refine pr_iconst hA (0) dX8_requestInState_22 (by decide) ?_
    refine pr_iconst hA (1) dX8_requestInState_23 (by decide) ?_
    refine pr_callVi hA [.int (0 : Int32), .int (1 : Int32)] (c_tiE (m := m) (σ := (pr_up σ 0 6 (0 : Int32))) (pr_hl hA) hm (ti_0 pr_upe)) v_X8_301 (mo_k0 hm) (by decide) rfl rfl rfl (by decide) (Nat.zero_le _) (Nat.zero_le _) rfl (Nat.le_of_ble_eq_true rfl) dX8_requestInState_24 ?_
    refine pr_if_eq hA 32 dX8_requestInState_27 (by decide) (fun c_27 => ?_) (fun c_27 => ?_)
    · refine pr_iload_n hA dX8_requestInState_32 rfl ?_
      refine pr_istore_n (ls' := [_, _, _, _, _]) hA dX8_requestInState_33 (by decide) rfl ?_
      refine pr_iconst hA (nI 0) dX8_requestInState_34 (by decide) ?_
      refine pr_istore (ls' := [_, _, _, _, _]) hA dX8_requestInState_35 (by decide) rfl ?_
      obtain ⟨R, hR0⟩ : ∃ R, mf_requestInState_rl37 σ c i ((mrn σ) + 1) 0 i = R := ⟨_, rfl⟩
      have hf : mf_requestInState_r σ c i = R := by simp only [mf_requestInState_r, hR0]
      have lp37 : ∀ (j k : Nat) (x3 : Int32), (mrn σ) + 1 - k = j → k ≤ (mrn σ) → mf_requestInState_rl37 σ c i j k x3 = R → pr_G g X mX8_requestInState.2.2.1 (pr_MQ g X (pr_R (some (.int (mf_requestInState_r σ c i))) T (rg_put I m 16 (mf_requestInState σ c i)) L) pr_no 0 0) 0 0 37 [.ref m, .int (nI c), .int i, .int x3, .int (nI k)] [] T (rg_put I m 16 (pr_up σ 0 6 (0 : Int32))) L := by
        intro j
        induction j with
        | zero => intro k x3  hj hk hR; omega
        | succ j ih =>
          intro k x3  hj hk hR
          refine pr_iload hA dX8_requestInState_37 rfl ?_
          refine pr_aload_n hA dX8_requestInState_39 rfl ?_
          refine pr_getR hA f_X8_9 rfl (mo_k0 hm) (mo_f0_0 hm) dX8_requestInState_40 ?_
          refine pr_bipush hA (nI 8) dX8_requestInState_43 (by decide) ?_
          refine pr_ialdM (v := (nI (mrn σ))) hA (mo_k1 hm) (by omega) (by omega) ((rg_val (by decide)).trans ((pr_upv (by decide)).trans (mI_nr hI))) dX8_requestInState_45 ?_
          refine pr_icmp_ge hA 79 dX8_requestInState_46 (by decide) (fun c_46 => ?_) (fun c_46 => ?_)
          · have n_46 : (mrn σ) ≤ k := (nI_leI (by omega) (by omega)).mp c_46
            refine pr_iconst hA ((-1)) dX8_requestInState_79 (by decide) ?_
            simp only [mf_requestInState_rl37, if_pos c_46] at hR
            exact pr_ireturn hA rfl rfl (Nat.zero_le _) (Nat.zero_le _) dX8_requestInState_80 ⟨(by rw [hf, ← hR]), rfl, rfl, rfl⟩
          · have n_46 : ¬ (mrn σ) ≤ k := fun q => c_46 ((nI_leI (by omega) (by omega)).mpr q)
            refine pr_aload_n hA dX8_requestInState_49 rfl ?_
            refine pr_iload hA dX8_requestInState_50 rfl ?_
            refine pr_iconst hA (4) dX8_requestInState_52 (by decide) ?_
            refine pr_callVi hA [.int (nI k), .int (4 : Int32)] (c_m_req (m := m) (k := k) (c := 4) (σ := (pr_up σ 0 6 (0 : Int32))) (pr_hl hA) hm (by omega) (by omega)) v_X8_229 (mo_k0 hm) (by decide) rfl rfl rfl (by decide) (Nat.zero_le _) (Nat.zero_le _) rfl (Nat.le_of_ble_eq_true rfl) dX8_requestInState_53 ?_
            rw [show ((pr_up σ 0 6 (0 : Int32)) 1 (264 + 28 * k + 4)) = (σ 1 (264 + 28 * k + 4)) from (pr_upv (by decide))]
            refine pr_iload_n hA dX8_requestInState_56 rfl ?_
            refine pr_icmp_eq hA 63 dX8_requestInState_57 (by decide) (fun c_57 => ?_) (fun c_57 => ?_)
            · refine pr_iload_n hA dX8_requestInState_63 rfl ?_
              refine pr_if_ne hA 70 dX8_requestInState_64 (by decide) (fun c_64 => ?_) (fun c_64 => ?_)
              · refine pr_iinc (ls' := [_, _, _, _, _]) hA (x3 + Int32.ofInt (-1)) dX8_requestInState_70 (by decide) rfl rfl rfl ?_
                refine pr_iinc (ls' := [_, _, _, _, _]) hA (nI (k + 1)) dX8_requestInState_73 (by decide) rfl (nI_inc _) rfl ?_
                refine pr_goto hA 37 dX8_requestInState_76 (by decide) ?_
                simp only [mf_requestInState_rl37, if_neg c_46, if_pos c_57, if_neg c_64] at hR
                exact (ih (k + 1) (x3 + Int32.ofInt (-1)) (by omega) (by omega) hR)
              · refine pr_iload hA dX8_requestInState_67 rfl ?_
                simp only [mf_requestInState_rl37, if_neg c_46, if_pos c_57, if_pos c_64] at hR
                exact pr_ireturn hA rfl rfl (Nat.zero_le _) (Nat.zero_le _) dX8_requestInState_69 ⟨(by rw [hf, ← hR]), rfl, rfl, rfl⟩
            · refine pr_goto hA 73 dX8_requestInState_60 (by decide) ?_
              refine pr_iinc (ls' := [_, _, _, _, _]) hA (nI (k + 1)) dX8_requestInState_73 (by decide) rfl (nI_inc _) rfl ?_
              refine pr_goto hA 37 dX8_requestInState_76 (by decide) ?_
              simp only [mf_requestInState_rl37, if_neg c_46, if_neg c_57] at hR
              exact (ih (k + 1) x3 (by omega) (by omega) hR)
      exact (lp37 ((mrn σ) + 1) 0 i rfl (Nat.zero_le _) hR0)
    · exact (c_27 (by decide)).elim
  · exact absurd c_15 (by decide)

theorem fr_mf_requestInState {σ : pr_I} {c : Nat} {i : Int32} {o : Nat} (hms : ∀ m ∈ ([0] : List Nat), o ≠ m) : mf_requestInState σ c i o = σ o := by
  unfold mf_requestInState
  simp only [List.mem_cons, List.not_mem_nil, or_false, forall_eq_or_imp, forall_eq] at hms
  rw [pr_up_ne (by omega)]

noncomputable def mf_ticketValue_r (σ : pr_I) (k : Nat) (c : Nat) : Int32 := (σ 1 (1384 + 8 * k + c))
noncomputable def mf_ticketValue (σ : pr_I) (k : Nat) (c : Nat) : pr_I := (pr_up σ 0 6 (0 : Int32))
set_option maxRecDepth 100000 in
set_option maxHeartbeats 400000 in
theorem c_mf_ticketValue {g : pr_C} {l : Launch} (hl : l.stackTraces = false) {T : pr_T} {I : pr_I} {L : pr_L} {m : Nat} {σ : pr_I} {k : Nat} {c : Nat} (hm : pr_Mo T m) (hI : mI σ) (hk : k < mtn σ) (hc : c ≤ 7) : pr_M g l 11 0 0 mX8_ticketValue [.ref m, .int (nI k), .int (nI c)] T (rg_put I m 16 σ) L (pr_R (some (.int (mf_ticketValue_r σ k c))) T (rg_put I m 16 (mf_ticketValue σ k c)) L) pr_no := by
  refine pr_ofG (by decide) rfl hl (Nat.le_of_ble_eq_true rfl) (fun X hA hX hXn hXt => ?_)
  subst hX
  show pr_G g X mX8_ticketValue.2.2.1 _ 0 0 0 [.ref m, .int (nI k), .int (nI c)] [] T (rg_put I m 16 σ) L
  have hn5 := mI_n5 hI
  have hr4 := mI_nr4 hI
  have hl24 := mI_nl24 hI
  have hn12 := mI_nn12 hI
  refine pr_aload_n hA dX8_ticketValue_0 rfl ?_
  refine pr_iconst hA (0) dX8_ticketValue_1 (by decide) ?_
  refine pr_putE (I' := (rg_put I m 16 (pr_up σ 0 6 (0 : Int32)))) hA f_X8_60 rfl (mo_k0 hm) (rg_up0 (by decide)) dX8_ticketValue_2 ?_
  refine pr_aload_n hA dX8_ticketValue_5 rfl ?_
  refine pr_iload_n hA dX8_ticketValue_6 rfl ?_
  refine pr_i2l hA dX8_ticketValue_7 ?_
  refine pr_lconst hA 0 dX8_ticketValue_8 (by decide) ?_
  refine pr_aload_n hA dX8_ticketValue_9 rfl ?_
  refine pr_getR hA f_X8_9 rfl (mo_k0 hm) (mo_f0_0 hm) dX8_ticketValue_10 ?_
  refine pr_bipush hA (nI 9) dX8_ticketValue_13 (by decide) ?_
  refine pr_ialdM (v := (nI (mtn σ))) hA (mo_k1 hm) (by omega) (by omega) ((rg_val (by decide)).trans ((pr_upv (by decide)).trans (mI_n hI))) dX8_ticketValue_15 ?_
  refine pr_iconst hA (1) dX8_ticketValue_16 (by decide) ?_
  refine pr_isub hA dX8_ticketValue_17 ?_
  refine pr_i2l hA dX8_ticketValue_18 ?_
  refine pr_callSi hA [.long (((nI k)).toInt64), .long (0 : Int64), .long ((((nI (mtn σ)) - (1 : Int32))).toInt64)] (c_inE (m := m) (σ := (pr_up σ 0 6 (0 : Int32))) (v := 1) (pr_hl hA) hm (inK1 (by omega) (by omega))) s_X8_80 rfl (by decide) (Nat.zero_le _) (Nat.zero_le _) rfl (Nat.le_of_ble_eq_true rfl) dX8_ticketValue_19 ?_
  refine pr_if_ne hA 29 dX8_ticketValue_22 (by decide) (fun c_22 => ?_) (fun c_22 => ?_)
  · refine pr_iconst hA (0) dX8_ticketValue_29 (by decide) ?_
    refine pr_iconst hA (1) dX8_ticketValue_30 (by decide) ?_
    refine pr_callVi hA [.int (0 : Int32), .int (1 : Int32)] (c_tiE (m := m) (σ := (pr_up σ 0 6 (0 : Int32))) (pr_hl hA) hm (ti_0 pr_upe)) v_X8_301 (mo_k0 hm) (by decide) rfl rfl rfl (by decide) (Nat.zero_le _) (Nat.zero_le _) rfl (Nat.le_of_ble_eq_true rfl) dX8_ticketValue_31 ?_
    refine pr_if_ne hA 62 dX8_ticketValue_34 (by decide) (fun c_34 => ?_) (fun c_34 => ?_)
    · exact (c_34 (by decide)).elim
    · refine pr_aload_n hA dX8_ticketValue_37 rfl ?_
      refine pr_iload_n hA dX8_ticketValue_38 rfl ?_
      refine pr_i2l hA dX8_ticketValue_39 ?_
      refine pr_lconst hA 0 dX8_ticketValue_40 (by decide) ?_
      refine pr_ldc2 hA kK_X8_351 dX8_ticketValue_41 ?_
      refine pr_callSi hA [.long (((nI c)).toInt64), .long (0 : Int64), .long (7 : Int64)] (c_inE (m := m) (σ := (pr_up σ 0 6 (0 : Int32))) (v := 1) (pr_hl hA) hm (in_c1 (B := 7) (by omega) (by decide) (by decide))) s_X8_80 rfl (by decide) (Nat.zero_le _) (Nat.zero_le _) rfl (Nat.le_of_ble_eq_true rfl) dX8_ticketValue_44 ?_
      refine pr_if_ne hA 54 dX8_ticketValue_47 (by decide) (fun c_47 => ?_) (fun c_47 => ?_)
      · refine pr_iconst hA (0) dX8_ticketValue_54 (by decide) ?_
        refine pr_iconst hA (2) dX8_ticketValue_55 (by decide) ?_
        refine pr_callVi hA [.int (0 : Int32), .int (2 : Int32)] (c_tiE (m := m) (σ := (pr_up σ 0 6 (0 : Int32))) (pr_hl hA) hm (ti_0 pr_upe)) v_X8_301 (mo_k0 hm) (by decide) rfl rfl rfl (by decide) (Nat.zero_le _) (Nat.zero_le _) rfl (Nat.le_of_ble_eq_true rfl) dX8_ticketValue_56 ?_
        refine pr_if_eq hA 64 dX8_ticketValue_59 (by decide) (fun c_59 => ?_) (fun c_59 => ?_)
        · refine pr_aload_n hA dX8_ticketValue_64 rfl ?_
          refine pr_iload_n hA dX8_ticketValue_65 rfl ?_
          refine pr_iload_n hA dX8_ticketValue_66 rfl ?_
          refine pr_callVi hA [.int (nI k), .int (nI c)] (c_m_tick (m := m) (k := k) (c := c) (σ := (pr_up σ 0 6 (0 : Int32))) (pr_hl hA) hm (by omega) (by omega)) v_X8_197 (mo_k0 hm) (by decide) rfl rfl rfl (by decide) (Nat.zero_le _) (Nat.zero_le _) rfl (Nat.le_of_ble_eq_true rfl) dX8_ticketValue_67 ?_
          rw [show ((pr_up σ 0 6 (0 : Int32)) 1 (1384 + 8 * k + c)) = (σ 1 (1384 + 8 * k + c)) from (pr_upv (by decide))]
          exact pr_ireturn hA rfl rfl (Nat.zero_le _) (Nat.zero_le _) dX8_ticketValue_70 ⟨rfl, rfl, rfl, rfl⟩
        · exact (c_59 (by decide)).elim
      · exact absurd c_47 (by decide)
  · exact absurd c_22 (by decide)

theorem fr_mf_ticketValue {σ : pr_I} {k : Nat} {c : Nat} {o : Nat} (hms : ∀ m ∈ ([0] : List Nat), o ≠ m) : mf_ticketValue σ k c o = σ o := by
  unfold mf_ticketValue
  simp only [List.mem_cons, List.not_mem_nil, or_false, forall_eq_or_imp, forall_eq] at hms
  rw [pr_up_ne (by omega)]

noncomputable def mf_ticketOn_rl15 (σ : pr_I) (lk : Nat) (i : Int32) : Nat → Nat → Int32 → Int32
  | 0, _, _ => 0
  | j + 1, k, x3 => (if (nI (mtn σ)) ≤ (nI k) then ((-1) : Int32) else (if (σ 1 (1384 + 8 * k + 1)) = (nI lk) then (if (m_kept_r (pr_up σ 0 6 (0 : Int32)) k) = 0 then (mf_ticketOn_rl15 σ lk i j (k + 1) x3) else (if x3 = 0 then (nI k) else (mf_ticketOn_rl15 σ lk i j (k + 1) (x3 + Int32.ofInt (-1))))) else (mf_ticketOn_rl15 σ lk i j (k + 1) x3)))
noncomputable def mf_ticketOn_r (σ : pr_I) (lk : Nat) (i : Int32) : Int32 := (mf_ticketOn_rl15 σ lk i ((mtn σ) + 1) 0 i)
noncomputable def mf_ticketOn (σ : pr_I) (lk : Nat) (i : Int32) : pr_I := (pr_up σ 0 6 (0 : Int32))
set_option maxRecDepth 100000 in
set_option maxHeartbeats 400000 in
theorem c_mf_ticketOn {g : pr_C} {l : Launch} (hl : l.stackTraces = false) {T : pr_T} {I : pr_I} {L : pr_L} {m : Nat} {σ : pr_I} {lk : Nat} {i : Int32} (hm : pr_Mo T m) (hI : mI σ) (hk : lk < mln σ) : pr_M g l 11 0 0 mX8_ticketOn [.ref m, .int (nI lk), .int i] T (rg_put I m 16 σ) L (pr_R (some (.int (mf_ticketOn_r σ lk i))) T (rg_put I m 16 (mf_ticketOn σ lk i)) L) pr_no := by
  refine pr_ofG (by decide) rfl hl (Nat.le_of_ble_eq_true rfl) (fun X hA hX hXn hXt => ?_)
  subst hX
  show pr_G g X mX8_ticketOn.2.2.1 _ 0 0 0 [.ref m, .int (nI lk), .int i, .null, .null] [] T (rg_put I m 16 σ) L
  have hn5 := mI_n5 hI
  have hr4 := mI_nr4 hI
  have hl24 := mI_nl24 hI
  have hn12 := mI_nn12 hI
  refine pr_aload_n hA dX8_ticketOn_0 rfl ?_
  refine pr_iload_n hA dX8_ticketOn_1 rfl ?_
  have hv2 : mI σ := hI
  refine pr_callVi hA [.int (nI lk)] (c_nl_ok (m := m) (σ := σ) (pr_hl hA) hm hv2 (by omega)) v_X8_315 (mo_k0 hm) (by decide) rfl rfl rfl (by decide) (Nat.zero_le _) (Nat.zero_le _) rfl (Nat.le_of_ble_eq_true rfl) dX8_ticketOn_2 ?_
  refine pr_if_eq hA 10 dX8_ticketOn_5 (by decide) (fun c_5 => ?_) (fun c_5 => ?_)
  · refine pr_iload_n hA dX8_ticketOn_10 rfl ?_
    refine pr_istore_n (ls' := [_, _, _, _, _]) hA dX8_ticketOn_11 (by decide) rfl ?_
    refine pr_iconst hA (nI 0) dX8_ticketOn_12 (by decide) ?_
    refine pr_istore (ls' := [_, _, _, _, _]) hA dX8_ticketOn_13 (by decide) rfl ?_
    obtain ⟨R, hR0⟩ : ∃ R, mf_ticketOn_rl15 σ lk i ((mtn σ) + 1) 0 i = R := ⟨_, rfl⟩
    have hf : mf_ticketOn_r σ lk i = R := by simp only [mf_ticketOn_r, hR0]
    have lp15 : ∀ (j k : Nat) (x3 : Int32), (mtn σ) + 1 - k = j → k ≤ (mtn σ) → mf_ticketOn_rl15 σ lk i j k x3 = R → pr_G g X mX8_ticketOn.2.2.1 (pr_MQ g X (pr_R (some (.int (mf_ticketOn_r σ lk i))) T (rg_put I m 16 (mf_ticketOn σ lk i)) L) pr_no 0 0) 0 0 15 [.ref m, .int (nI lk), .int i, .int x3, .int (nI k)] [] T (rg_put I m 16 (pr_up σ 0 6 (0 : Int32))) L := by
      intro j
      induction j with
      | zero => intro k x3  hj hk hR; omega
      | succ j ih =>
        intro k x3  hj hk hR
        refine pr_iload hA dX8_ticketOn_15 rfl ?_
        refine pr_aload_n hA dX8_ticketOn_17 rfl ?_
        refine pr_getR hA f_X8_9 rfl (mo_k0 hm) (mo_f0_0 hm) dX8_ticketOn_18 ?_
        refine pr_bipush hA (nI 9) dX8_ticketOn_21 (by decide) ?_
        refine pr_ialdM (v := (nI (mtn σ))) hA (mo_k1 hm) (by omega) (by omega) ((rg_val (by decide)).trans ((pr_upv (by decide)).trans (mI_n hI))) dX8_ticketOn_23 ?_
        refine pr_icmp_ge hA 66 dX8_ticketOn_24 (by decide) (fun c_24 => ?_) (fun c_24 => ?_)
        · have n_24 : (mtn σ) ≤ k := (nI_leI (by omega) (by omega)).mp c_24
          refine pr_iconst hA ((-1)) dX8_ticketOn_66 (by decide) ?_
          simp only [mf_ticketOn_rl15, if_pos c_24] at hR
          exact pr_ireturn hA rfl rfl (Nat.zero_le _) (Nat.zero_le _) dX8_ticketOn_67 ⟨(by rw [hf, ← hR]), rfl, rfl, rfl⟩
        · have n_24 : ¬ (mtn σ) ≤ k := fun q => c_24 ((nI_leI (by omega) (by omega)).mpr q)
          refine pr_aload_n hA dX8_ticketOn_27 rfl ?_
          refine pr_iload hA dX8_ticketOn_28 rfl ?_
          refine pr_iconst hA (1) dX8_ticketOn_30 (by decide) ?_
          refine pr_callVi hA [.int (nI k), .int (1 : Int32)] (c_m_tick (m := m) (k := k) (c := 1) (σ := (pr_up σ 0 6 (0 : Int32))) (pr_hl hA) hm (by omega) (by omega)) v_X8_197 (mo_k0 hm) (by decide) rfl rfl rfl (by decide) (Nat.zero_le _) (Nat.zero_le _) rfl (Nat.le_of_ble_eq_true rfl) dX8_ticketOn_31 ?_
          rw [show ((pr_up σ 0 6 (0 : Int32)) 1 (1384 + 8 * k + 1)) = (σ 1 (1384 + 8 * k + 1)) from (pr_upv (by decide))]
          refine pr_iload_n hA dX8_ticketOn_34 rfl ?_
          refine pr_icmp_ne hA 60 dX8_ticketOn_35 (by decide) (fun c_35 => ?_) (fun c_35 => ?_)
          · refine pr_iinc (ls' := [_, _, _, _, _]) hA (nI (k + 1)) dX8_ticketOn_60 (by decide) rfl (nI_inc _) rfl ?_
            refine pr_goto hA 15 dX8_ticketOn_63 (by decide) ?_
            simp only [mf_ticketOn_rl15, if_neg c_24, if_neg c_35] at hR
            exact (ih (k + 1) x3 (by omega) (by omega) hR)
          · refine pr_aload_n hA dX8_ticketOn_38 rfl ?_
            refine pr_iload hA dX8_ticketOn_39 rfl ?_
            refine pr_callVi hA [.int (nI k)] (c_m_kept (m := m) (σ := (pr_up σ 0 6 (0 : Int32))) (t := k) (pr_hl hA) hm (by omega)) v_X8_201 (mo_k0 hm) (by decide) rfl rfl rfl (by decide) (Nat.zero_le _) (Nat.zero_le _) rfl (Nat.le_of_ble_eq_true rfl) dX8_ticketOn_41 ?_
            refine pr_if_ne hA 50 dX8_ticketOn_44 (by decide) (fun c_44 => ?_) (fun c_44 => ?_)
            · refine pr_iload_n hA dX8_ticketOn_50 rfl ?_
              refine pr_if_ne hA 57 dX8_ticketOn_51 (by decide) (fun c_51 => ?_) (fun c_51 => ?_)
              · refine pr_iinc (ls' := [_, _, _, _, _]) hA (x3 + Int32.ofInt (-1)) dX8_ticketOn_57 (by decide) rfl rfl rfl ?_
                refine pr_iinc (ls' := [_, _, _, _, _]) hA (nI (k + 1)) dX8_ticketOn_60 (by decide) rfl (nI_inc _) rfl ?_
                refine pr_goto hA 15 dX8_ticketOn_63 (by decide) ?_
                simp only [mf_ticketOn_rl15, if_neg c_24, if_pos c_35, if_neg c_44, if_neg c_51] at hR
                exact (ih (k + 1) (x3 + Int32.ofInt (-1)) (by omega) (by omega) hR)
              · refine pr_iload hA dX8_ticketOn_54 rfl ?_
                simp only [mf_ticketOn_rl15, if_neg c_24, if_pos c_35, if_neg c_44, if_pos c_51] at hR
                exact pr_ireturn hA rfl rfl (Nat.zero_le _) (Nat.zero_le _) dX8_ticketOn_56 ⟨(by rw [hf, ← hR]), rfl, rfl, rfl⟩
            · refine pr_goto hA 60 dX8_ticketOn_47 (by decide) ?_
              refine pr_iinc (ls' := [_, _, _, _, _]) hA (nI (k + 1)) dX8_ticketOn_60 (by decide) rfl (nI_inc _) rfl ?_
              refine pr_goto hA 15 dX8_ticketOn_63 (by decide) ?_
              simp only [mf_ticketOn_rl15, if_neg c_24, if_pos c_35, if_pos c_44] at hR
              exact (ih (k + 1) x3 (by omega) (by omega) hR)
    exact (lp15 ((mtn σ) + 1) 0 i rfl (Nat.zero_le _) hR0)
  · exact (c_5 (by decide)).elim

theorem fr_mf_ticketOn {σ : pr_I} {lk : Nat} {i : Int32} {o : Nat} (hms : ∀ m ∈ ([0] : List Nat), o ≠ m) : mf_ticketOn σ lk i o = σ o := by
  unfold mf_ticketOn
  simp only [List.mem_cons, List.not_mem_nil, or_false, forall_eq_or_imp, forall_eq] at hms
  rw [pr_up_ne (by omega)]

noncomputable def mf_ticketsInState_it36 (σ : pr_I) (c : Nat) : Nat → Int32
  | 0 => (0 : Int32)
  | k + 1 => ((mf_ticketsInState_it36 σ c k) + (if (σ 1 (1384 + 8 * k + 5)) = (nI c) then (1 : Int32) else (0 : Int32)))
noncomputable def mf_ticketsInState_r (σ : pr_I) (c : Nat) : Int32 := (mf_ticketsInState_it36 σ c (mtn σ))
noncomputable def mf_ticketsInState (σ : pr_I) (c : Nat) : pr_I := (pr_up σ 0 6 (0 : Int32))
set_option maxRecDepth 100000 in
set_option maxHeartbeats 400000 in
theorem c_mf_ticketsInState {g : pr_C} {l : Launch} (hl : l.stackTraces = false) {T : pr_T} {I : pr_I} {L : pr_L} {m : Nat} {σ : pr_I} {c : Nat} (hm : pr_Mo T m) (hI : mI σ) (hc : c ≤ 3) : pr_M g l 11 0 0 mX8_ticketsInState [.ref m, .int (nI c)] T (rg_put I m 16 σ) L (pr_R (some (.int (mf_ticketsInState_r σ c))) T (rg_put I m 16 (mf_ticketsInState σ c)) L) pr_no := by
  refine pr_ofG (by decide) rfl hl (Nat.le_of_ble_eq_true rfl) (fun X hA hX hXn hXt => ?_)
  subst hX
  show pr_G g X mX8_ticketsInState.2.2.1 _ 0 0 0 [.ref m, .int (nI c), .null, .null] [] T (rg_put I m 16 σ) L
  have hn5 := mI_n5 hI
  have hr4 := mI_nr4 hI
  have hl24 := mI_nl24 hI
  have hn12 := mI_nn12 hI
  refine pr_aload_n hA dX8_ticketsInState_0 rfl ?_
  refine pr_iconst hA (0) dX8_ticketsInState_1 (by decide) ?_
  refine pr_putE (I' := (rg_put I m 16 (pr_up σ 0 6 (0 : Int32)))) hA f_X8_60 rfl (mo_k0 hm) (rg_up0 (by decide)) dX8_ticketsInState_2 ?_
  refine pr_aload_n hA dX8_ticketsInState_5 rfl ?_
  refine pr_iload_n hA dX8_ticketsInState_6 rfl ?_
  refine pr_i2l hA dX8_ticketsInState_7 ?_
  refine pr_lconst hA 0 dX8_ticketsInState_8 (by decide) ?_
  refine pr_ldc2 hA kK_X8_356 dX8_ticketsInState_9 ?_
  refine pr_callSi hA [.long (((nI c)).toInt64), .long (0 : Int64), .long (3 : Int64)] (c_inE (m := m) (σ := (pr_up σ 0 6 (0 : Int32))) (v := 1) (pr_hl hA) hm (in_c1 (B := 3) (by omega) (by decide) (by decide))) s_X8_80 rfl (by decide) (Nat.zero_le _) (Nat.zero_le _) rfl (Nat.le_of_ble_eq_true rfl) dX8_ticketsInState_12 ?_
  refine pr_if_ne hA 22 dX8_ticketsInState_15 (by decide) (fun c_15 => ?_) (fun c_15 => ?_)
  · refine pr_iconst hA (0) dX8_ticketsInState_22 (by decide) ?_
    refine pr_iconst hA (1) dX8_ticketsInState_23 (by decide) ?_
    refine pr_callVi hA [.int (0 : Int32), .int (1 : Int32)] (c_tiE (m := m) (σ := (pr_up σ 0 6 (0 : Int32))) (pr_hl hA) hm (ti_0 pr_upe)) v_X8_301 (mo_k0 hm) (by decide) rfl rfl rfl (by decide) (Nat.zero_le _) (Nat.zero_le _) rfl (Nat.le_of_ble_eq_true rfl) dX8_ticketsInState_24 ?_
    refine pr_if_eq hA 32 dX8_ticketsInState_27 (by decide) (fun c_27 => ?_) (fun c_27 => ?_)
    · refine pr_iconst hA (0) dX8_ticketsInState_32 (by decide) ?_
      refine pr_istore_n (ls' := [_, _, _, _]) hA dX8_ticketsInState_33 (by decide) rfl ?_
      refine pr_iconst hA (nI 0) dX8_ticketsInState_34 (by decide) ?_
      refine pr_istore_n (ls' := [_, _, _, _]) hA dX8_ticketsInState_35 (by decide) rfl ?_
      have lp36 : ∀ (j k : Nat), (mtn σ) - k = j → k ≤ (mtn σ) → pr_G g X mX8_ticketsInState.2.2.1 (pr_MQ g X (pr_R (some (.int (mf_ticketsInState_r σ c))) T (rg_put I m 16 (mf_ticketsInState σ c)) L) pr_no 0 0) 0 0 36 [.ref m, .int (nI c), .int (mf_ticketsInState_it36 σ c k), .int (nI k)] [] T (rg_put I m 16 (pr_up σ 0 6 (0 : Int32))) L := by
        intro j
        induction j using Nat.strongRecOn with | ind j ih36 =>
        intro k hj36 hk36
        refine pr_iload_n hA dX8_ticketsInState_36 rfl ?_
        refine pr_aload_n hA dX8_ticketsInState_37 rfl ?_
        refine pr_getR hA f_X8_9 rfl (mo_k0 hm) (mo_f0_0 hm) dX8_ticketsInState_38 ?_
        refine pr_bipush hA (nI 9) dX8_ticketsInState_41 (by decide) ?_
        refine pr_ialdM (v := (nI (mtn σ))) hA (mo_k1 hm) (by omega) (by omega) ((rg_val (by decide)).trans ((pr_upv (by decide)).trans (mI_n hI))) dX8_ticketsInState_43 ?_
        refine pr_icmp_ge hA 71 dX8_ticketsInState_44 (by decide) (fun c_44 => ?_) (fun c_44 => ?_)
        · have n_44 : (mtn σ) ≤ k := (nI_leI (by omega) (by omega)).mp c_44
          have hex : (mtn σ) = k := by omega
          subst hex
          refine pr_iload_n hA dX8_ticketsInState_71 rfl ?_
          exact pr_ireturn hA rfl rfl (Nat.zero_le _) (Nat.zero_le _) dX8_ticketsInState_72 ⟨rfl, rfl, rfl, rfl⟩
        · have n_44 : ¬ (mtn σ) ≤ k := fun q => c_44 ((nI_leI (by omega) (by omega)).mpr q)
          refine pr_iload_n hA dX8_ticketsInState_47 rfl ?_
          refine pr_aload_n hA dX8_ticketsInState_48 rfl ?_
          refine pr_iload_n hA dX8_ticketsInState_49 rfl ?_
          refine pr_iconst hA (5) dX8_ticketsInState_50 (by decide) ?_
          refine pr_callVi hA [.int (nI k), .int (5 : Int32)] (c_m_tick (m := m) (k := k) (c := 5) (σ := (pr_up σ 0 6 (0 : Int32))) (pr_hl hA) hm (by omega) (by omega)) v_X8_197 (mo_k0 hm) (by decide) rfl rfl rfl (by decide) (Nat.zero_le _) (Nat.zero_le _) rfl (Nat.le_of_ble_eq_true rfl) dX8_ticketsInState_51 ?_
          rw [show ((pr_up σ 0 6 (0 : Int32)) 1 (1384 + 8 * k + 5)) = (σ 1 (1384 + 8 * k + 5)) from (pr_upv (by decide))]
          refine pr_iload_n hA dX8_ticketsInState_54 rfl ?_
          refine pr_join (c := (σ 1 (1384 + 8 * k + 5)) = (nI c)) (J := 63) (st := [.int (mf_ticketsInState_it36 σ c k)]) (1 : Int32) (0 : Int32) inferInstance (fun kt kf => ?_) ?_
          · refine pr_icmp_ne hA 62 dX8_ticketsInState_55 (by decide) (fun c_55 => ?_) (fun c_55 => ?_)
            · refine pr_iconst hA (0) dX8_ticketsInState_62 (by decide) ?_
              exact kf c_55
            · refine pr_iconst hA (1) dX8_ticketsInState_58 (by decide) ?_
              refine pr_goto hA 63 dX8_ticketsInState_59 (by decide) ?_
              exact kt c_55
          · refine pr_iadd hA dX8_ticketsInState_63 ?_
            refine pr_istore_n (ls' := [_, _, _, _]) hA dX8_ticketsInState_64 (by decide) rfl ?_
            refine pr_iinc (ls' := [_, _, _, _]) hA (nI (k + 1)) dX8_ticketsInState_65 (by decide) rfl (nI_inc _) rfl ?_
            refine pr_goto hA 36 dX8_ticketsInState_68 (by decide) ?_
            have hb := ih36 ((mtn σ) - (k + 1)) (by omega) (k + 1) rfl (by omega)
            simp only [mf_ticketsInState_it36] at hb
            exact hb
      exact (lp36 ((mtn σ) - 0) 0 rfl (by omega))
    · exact (c_27 (by decide)).elim
  · exact absurd c_15 (by decide)

theorem fr_mf_ticketsInState {σ : pr_I} {c : Nat} {o : Nat} (hms : ∀ m ∈ ([0] : List Nat), o ≠ m) : mf_ticketsInState σ c o = σ o := by
  unfold mf_ticketsInState
  simp only [List.mem_cons, List.not_mem_nil, or_false, forall_eq_or_imp, forall_eq] at hms
  rw [pr_up_ne (by omega)]

noncomputable def mf_ticketsOf_it40 (σ : pr_I) (k : Nat) (c : Nat) : Nat → Int32
  | 0 => (0 : Int32)
  | i + 1 => ((mf_ticketsOf_it40 σ k c i) + (if (σ 1 (1384 + 8 * i + 0)) = (nI k) then (if (σ 1 (1384 + 8 * i + 5)) = (nI c) then (1 : Int32) else (0 : Int32)) else (0 : Int32)))
noncomputable def mf_ticketsOf_r (σ : pr_I) (k : Nat) (c : Nat) : Int32 := (mf_ticketsOf_it40 σ k c (mtn σ))
noncomputable def mf_ticketsOf (σ : pr_I) (k : Nat) (c : Nat) : pr_I := (pr_up σ 0 6 (0 : Int32))
set_option maxRecDepth 100000 in
set_option maxHeartbeats 400000 in
theorem c_mf_ticketsOf {g : pr_C} {l : Launch} (hl : l.stackTraces = false) {T : pr_T} {I : pr_I} {L : pr_L} {m : Nat} {σ : pr_I} {k : Nat} {c : Nat} (hm : pr_Mo T m) (hI : mI σ) (hk : k < mrn σ) (hc : c ≤ 3) : pr_M g l 11 0 0 mX8_ticketsOf [.ref m, .int (nI k), .int (nI c)] T (rg_put I m 16 σ) L (pr_R (some (.int (mf_ticketsOf_r σ k c))) T (rg_put I m 16 (mf_ticketsOf σ k c)) L) pr_no := by
  refine pr_ofG (by decide) rfl hl (Nat.le_of_ble_eq_true rfl) (fun X hA hX hXn hXt => ?_)
  subst hX
  show pr_G g X mX8_ticketsOf.2.2.1 _ 0 0 0 [.ref m, .int (nI k), .int (nI c), .null, .null] [] T (rg_put I m 16 σ) L
  have hn5 := mI_n5 hI
  have hr4 := mI_nr4 hI
  have hl24 := mI_nl24 hI
  have hn12 := mI_nn12 hI
  refine pr_aload_n hA dX8_ticketsOf_0 rfl ?_
  refine pr_iload_n hA dX8_ticketsOf_1 rfl ?_
  have hv2 : mI σ := hI
  refine pr_callVi hA [.int (nI k)] (c_nq_ok (m := m) (σ := σ) (pr_hl hA) hm hv2 (by omega)) v_X8_346 (mo_k0 hm) (by decide) rfl rfl rfl (by decide) (Nat.zero_le _) (Nat.zero_le _) rfl (Nat.le_of_ble_eq_true rfl) dX8_ticketsOf_2 ?_
  refine pr_if_ne hA 33 dX8_ticketsOf_5 (by decide) (fun c_5 => ?_) (fun c_5 => ?_)
  · exact (c_5 (by decide)).elim
  · refine pr_aload_n hA dX8_ticketsOf_8 rfl ?_
    refine pr_iload_n hA dX8_ticketsOf_9 rfl ?_
    refine pr_i2l hA dX8_ticketsOf_10 ?_
    refine pr_lconst hA 0 dX8_ticketsOf_11 (by decide) ?_
    refine pr_ldc2 hA kK_X8_356 dX8_ticketsOf_12 ?_
    refine pr_callSi hA [.long (((nI c)).toInt64), .long (0 : Int64), .long (3 : Int64)] (c_inE (m := m) (σ := (pr_up σ 0 6 (0 : Int32))) (v := 1) (pr_hl hA) hm (in_c1 (B := 3) (by omega) (by decide) (by decide))) s_X8_80 rfl (by decide) (Nat.zero_le _) (Nat.zero_le _) rfl (Nat.le_of_ble_eq_true rfl) dX8_ticketsOf_15 ?_
    refine pr_if_ne hA 25 dX8_ticketsOf_18 (by decide) (fun c_18 => ?_) (fun c_18 => ?_)
    · refine pr_iconst hA (0) dX8_ticketsOf_25 (by decide) ?_
      refine pr_iconst hA (2) dX8_ticketsOf_26 (by decide) ?_
      refine pr_callVi hA [.int (0 : Int32), .int (2 : Int32)] (c_tiE (m := m) (σ := (pr_up σ 0 6 (0 : Int32))) (pr_hl hA) hm (ti_0 pr_upe)) v_X8_301 (mo_k0 hm) (by decide) rfl rfl rfl (by decide) (Nat.zero_le _) (Nat.zero_le _) rfl (Nat.le_of_ble_eq_true rfl) dX8_ticketsOf_27 ?_
      refine pr_if_eq hA 35 dX8_ticketsOf_30 (by decide) (fun c_30 => ?_) (fun c_30 => ?_)
      · refine pr_iconst hA (0) dX8_ticketsOf_35 (by decide) ?_
        refine pr_istore_n (ls' := [_, _, _, _, _]) hA dX8_ticketsOf_36 (by decide) rfl ?_
        refine pr_iconst hA (nI 0) dX8_ticketsOf_37 (by decide) ?_
        refine pr_istore (ls' := [_, _, _, _, _]) hA dX8_ticketsOf_38 (by decide) rfl ?_
        have lp40 : ∀ (j i : Nat), (mtn σ) - i = j → i ≤ (mtn σ) → pr_G g X mX8_ticketsOf.2.2.1 (pr_MQ g X (pr_R (some (.int (mf_ticketsOf_r σ k c))) T (rg_put I m 16 (mf_ticketsOf σ k c)) L) pr_no 0 0) 0 0 40 [.ref m, .int (nI k), .int (nI c), .int (mf_ticketsOf_it40 σ k c i), .int (nI i)] [] T (rg_put I m 16 (pr_up σ 0 6 (0 : Int32))) L := by
          intro j
          induction j using Nat.strongRecOn with | ind j ih40 =>
          intro i hj40 hk40
          refine pr_iload hA dX8_ticketsOf_40 rfl ?_
          refine pr_aload_n hA dX8_ticketsOf_42 rfl ?_
          refine pr_getR hA f_X8_9 rfl (mo_k0 hm) (mo_f0_0 hm) dX8_ticketsOf_43 ?_
          refine pr_bipush hA (nI 9) dX8_ticketsOf_46 (by decide) ?_
          refine pr_ialdM (v := (nI (mtn σ))) hA (mo_k1 hm) (by omega) (by omega) ((rg_val (by decide)).trans ((pr_upv (by decide)).trans (mI_n hI))) dX8_ticketsOf_48 ?_
          refine pr_icmp_ge hA 88 dX8_ticketsOf_49 (by decide) (fun c_49 => ?_) (fun c_49 => ?_)
          · have n_49 : (mtn σ) ≤ i := (nI_leI (by omega) (by omega)).mp c_49
            have hex : (mtn σ) = i := by omega
            subst hex
            refine pr_iload_n hA dX8_ticketsOf_88 rfl ?_
            exact pr_ireturn hA rfl rfl (Nat.zero_le _) (Nat.zero_le _) dX8_ticketsOf_89 ⟨rfl, rfl, rfl, rfl⟩
          · have n_49 : ¬ (mtn σ) ≤ i := fun q => c_49 ((nI_leI (by omega) (by omega)).mpr q)
            refine pr_iload_n hA dX8_ticketsOf_52 rfl ?_
            refine pr_aload_n hA dX8_ticketsOf_53 rfl ?_
            refine pr_iload hA dX8_ticketsOf_54 rfl ?_
            refine pr_iconst hA (0) dX8_ticketsOf_56 (by decide) ?_
            refine pr_callVi hA [.int (nI i), .int (0 : Int32)] (c_m_tick (m := m) (k := i) (c := 0) (σ := (pr_up σ 0 6 (0 : Int32))) (pr_hl hA) hm (by omega) (by omega)) v_X8_197 (mo_k0 hm) (by decide) rfl rfl rfl (by decide) (Nat.zero_le _) (Nat.zero_le _) rfl (Nat.le_of_ble_eq_true rfl) dX8_ticketsOf_57 ?_
            rw [show ((pr_up σ 0 6 (0 : Int32)) 1 (1384 + 8 * i + 0)) = (σ 1 (1384 + 8 * i + 0)) from (pr_upv (by decide))]
            refine pr_iload_n hA dX8_ticketsOf_60 rfl ?_
            refine pr_join (c := (σ 1 (1384 + 8 * i + 0)) = (nI k)) (J := 80) (st := [.int (mf_ticketsOf_it40 σ k c i)]) (if (σ 1 (1384 + 8 * i + 5)) = (nI c) then (1 : Int32) else (0 : Int32)) (0 : Int32) inferInstance (fun kt kf => ?_) ?_
            · refine pr_icmp_ne hA 79 dX8_ticketsOf_61 (by decide) (fun c_61 => ?_) (fun c_61 => ?_)
              · refine pr_iconst hA (0) dX8_ticketsOf_79 (by decide) ?_
                exact kf c_61
              · refine pr_aload_n hA dX8_ticketsOf_64 rfl ?_
                refine pr_iload hA dX8_ticketsOf_65 rfl ?_
                refine pr_iconst hA (5) dX8_ticketsOf_67 (by decide) ?_
                refine pr_callVi hA [.int (nI i), .int (5 : Int32)] (c_m_tick (m := m) (k := i) (c := 5) (σ := (pr_up σ 0 6 (0 : Int32))) (pr_hl hA) hm (by omega) (by omega)) v_X8_197 (mo_k0 hm) (by decide) rfl rfl rfl (by decide) (Nat.zero_le _) (Nat.zero_le _) rfl (Nat.le_of_ble_eq_true rfl) dX8_ticketsOf_68 ?_
                rw [show ((pr_up σ 0 6 (0 : Int32)) 1 (1384 + 8 * i + 5)) = (σ 1 (1384 + 8 * i + 5)) from (pr_upv (by decide))]
                refine pr_iload_n hA dX8_ticketsOf_71 rfl ?_
                refine pr_join (c := (σ 1 (1384 + 8 * i + 5)) = (nI c)) (J := 80) (st := [.int (mf_ticketsOf_it40 σ k c i)]) (1 : Int32) (0 : Int32) inferInstance (fun kt kf => ?_) ?_
                · refine pr_icmp_ne hA 79 dX8_ticketsOf_72 (by decide) (fun c_72 => ?_) (fun c_72 => ?_)
                  · refine pr_iconst hA (0) dX8_ticketsOf_79 (by decide) ?_
                    exact kf c_72
                  · refine pr_iconst hA (1) dX8_ticketsOf_75 (by decide) ?_
                    refine pr_goto hA 80 dX8_ticketsOf_76 (by decide) ?_
                    exact kt c_72
                · exact kt c_61
            · refine pr_iadd hA dX8_ticketsOf_80 ?_
              refine pr_istore_n (ls' := [_, _, _, _, _]) hA dX8_ticketsOf_81 (by decide) rfl ?_
              refine pr_iinc (ls' := [_, _, _, _, _]) hA (nI (i + 1)) dX8_ticketsOf_82 (by decide) rfl (nI_inc _) rfl ?_
              refine pr_goto hA 40 dX8_ticketsOf_85 (by decide) ?_
              have hb := ih40 ((mtn σ) - (i + 1)) (by omega) (i + 1) rfl (by omega)
              simp only [mf_ticketsOf_it40] at hb
              exact hb
        exact (lp40 ((mtn σ) - 0) 0 rfl (by omega))
      · exact (c_30 (by decide)).elim
    · exact absurd c_18 (by decide)

theorem fr_mf_ticketsOf {σ : pr_I} {k : Nat} {c : Nat} {o : Nat} (hms : ∀ m ∈ ([0] : List Nat), o ≠ m) : mf_ticketsOf σ k c o = σ o := by
  unfold mf_ticketsOf
  simp only [List.mem_cons, List.not_mem_nil, or_false, forall_eq_or_imp, forall_eq] at hms
  rw [pr_up_ne (by omega)]

noncomputable def mf_revenue_r (σ : pr_I) : Int64 := ((m_sum_r (pr_up σ 0 6 (0 : Int32)) 7) - (m_sum_r (pr_up σ 0 6 (0 : Int32)) 8))
noncomputable def mf_revenue (σ : pr_I) : pr_I := (pr_up σ 0 6 (0 : Int32))
set_option maxRecDepth 100000 in
set_option maxHeartbeats 400000 in
theorem c_mf_revenue {g : pr_C} {l : Launch} (hl : l.stackTraces = false) {T : pr_T} {I : pr_I} {L : pr_L} {m : Nat} {σ : pr_I}  (hm : pr_Mo T m) (hI : mI σ) : pr_M g l 11 0 0 mX8_revenue [.ref m] T (rg_put I m 16 σ) L (pr_R (some (.long (mf_revenue_r σ))) T (rg_put I m 16 (mf_revenue σ)) L) pr_no := by
  refine pr_ofG (by decide) rfl hl (Nat.le_of_ble_eq_true rfl) (fun X hA hX hXn hXt => ?_)
  subst hX
  show pr_G g X mX8_revenue.2.2.1 _ 0 0 0 [.ref m] [] T (rg_put I m 16 σ) L
  have hn5 := mI_n5 hI
  have hr4 := mI_nr4 hI
  have hl24 := mI_nl24 hI
  have hn12 := mI_nn12 hI
  refine pr_aload_n hA dX8_revenue_0 rfl ?_
  refine pr_iconst hA (0) dX8_revenue_1 (by decide) ?_
  refine pr_putE (I' := (rg_put I m 16 (pr_up σ 0 6 (0 : Int32)))) hA f_X8_60 rfl (mo_k0 hm) (rg_up0 (by decide)) dX8_revenue_2 ?_
  refine pr_aload_n hA dX8_revenue_5 rfl ?_
  refine pr_bipush hA (nI 7) dX8_revenue_6 (by decide) ?_
  have hv8 : mI (pr_up σ 0 6 (0 : Int32)) := (mI.upn hI rfl)
  refine pr_callVl hA [.int (nI 7)] (c_m_sum (m := m) (σ := (pr_up σ 0 6 (0 : Int32))) (c := 7) (pr_hl hA) hm hv8 (by first | omega | assumption)) v_X8_358 (mo_k0 hm) (by decide) rfl rfl rfl (by decide) (Nat.zero_le _) (Nat.zero_le _) rfl (Nat.le_of_ble_eq_true rfl) dX8_revenue_8 ?_
  refine pr_aload_n hA dX8_revenue_11 rfl ?_
  refine pr_bipush hA (nI 8) dX8_revenue_12 (by decide) ?_
  have hv14 : mI (pr_up σ 0 6 (0 : Int32)) := (mI.upn hI rfl)
  refine pr_callVl hA [.int (nI 8)] (c_m_sum (m := m) (σ := (pr_up σ 0 6 (0 : Int32))) (c := 8) (pr_hl hA) hm hv14 (by first | omega | assumption)) v_X8_358 (mo_k0 hm) (by decide) rfl rfl rfl (by decide) (Nat.zero_le _) (Nat.zero_le _) rfl (Nat.le_of_ble_eq_true rfl) dX8_revenue_14 ?_
  refine pr_lsub hA dX8_revenue_17 ?_
  exact pr_lreturn hA rfl (Nat.zero_le _) (Nat.zero_le _) dX8_revenue_18 ⟨rfl, rfl, rfl, rfl⟩

theorem fr_mf_revenue {σ : pr_I}  {o : Nat} (hms : ∀ m ∈ ([0] : List Nat), o ≠ m) : mf_revenue σ o = σ o := by
  unfold mf_revenue
  simp only [List.mem_cons, List.not_mem_nil, or_false, forall_eq_or_imp, forall_eq] at hms
  rw [pr_up_ne (by omega)]

noncomputable def mf_refunds_r (σ : pr_I) : Int64 := (m_sum_r (pr_up σ 0 6 (0 : Int32)) 8)
noncomputable def mf_refunds (σ : pr_I) : pr_I := (pr_up σ 0 6 (0 : Int32))
set_option maxRecDepth 100000 in
set_option maxHeartbeats 400000 in
theorem c_mf_refunds {g : pr_C} {l : Launch} (hl : l.stackTraces = false) {T : pr_T} {I : pr_I} {L : pr_L} {m : Nat} {σ : pr_I}  (hm : pr_Mo T m) (hI : mI σ) : pr_M g l 11 0 0 mX8_refunds [.ref m] T (rg_put I m 16 σ) L (pr_R (some (.long (mf_refunds_r σ))) T (rg_put I m 16 (mf_refunds σ)) L) pr_no := by
  refine pr_ofG (by decide) rfl hl (Nat.le_of_ble_eq_true rfl) (fun X hA hX hXn hXt => ?_)
  subst hX
  show pr_G g X mX8_refunds.2.2.1 _ 0 0 0 [.ref m] [] T (rg_put I m 16 σ) L
  have hn5 := mI_n5 hI
  have hr4 := mI_nr4 hI
  have hl24 := mI_nl24 hI
  have hn12 := mI_nn12 hI
  refine pr_aload_n hA dX8_refunds_0 rfl ?_
  refine pr_iconst hA (0) dX8_refunds_1 (by decide) ?_
  refine pr_putE (I' := (rg_put I m 16 (pr_up σ 0 6 (0 : Int32)))) hA f_X8_60 rfl (mo_k0 hm) (rg_up0 (by decide)) dX8_refunds_2 ?_
  refine pr_aload_n hA dX8_refunds_5 rfl ?_
  refine pr_bipush hA (nI 8) dX8_refunds_6 (by decide) ?_
  have hv8 : mI (pr_up σ 0 6 (0 : Int32)) := (mI.upn hI rfl)
  refine pr_callVl hA [.int (nI 8)] (c_m_sum (m := m) (σ := (pr_up σ 0 6 (0 : Int32))) (c := 8) (pr_hl hA) hm hv8 (by first | omega | assumption)) v_X8_358 (mo_k0 hm) (by decide) rfl rfl rfl (by decide) (Nat.zero_le _) (Nat.zero_le _) rfl (Nat.le_of_ble_eq_true rfl) dX8_refunds_8 ?_
  exact pr_lreturn hA rfl (Nat.zero_le _) (Nat.zero_le _) dX8_refunds_11 ⟨rfl, rfl, rfl, rfl⟩

theorem fr_mf_refunds {σ : pr_I}  {o : Nat} (hms : ∀ m ∈ ([0] : List Nat), o ≠ m) : mf_refunds σ o = σ o := by
  unfold mf_refunds
  simp only [List.mem_cons, List.not_mem_nil, or_false, forall_eq_or_imp, forall_eq] at hms
  rw [pr_up_ne (by omega)]

noncomputable def mf_nextExpiry_r (σ : pr_I) : Int32 := (m_nx_r (pr_up σ 0 6 (0 : Int32)))
noncomputable def mf_nextExpiry (σ : pr_I) : pr_I := (pr_up σ 0 6 (0 : Int32))
set_option maxRecDepth 100000 in
set_option maxHeartbeats 400000 in
theorem c_mf_nextExpiry {g : pr_C} {l : Launch} (hl : l.stackTraces = false) {T : pr_T} {I : pr_I} {L : pr_L} {m : Nat} {σ : pr_I}  (hm : pr_Mo T m) (hI : mI σ) : pr_M g l 11 0 0 mX8_nextExpiry [.ref m] T (rg_put I m 16 σ) L (pr_R (some (.int (mf_nextExpiry_r σ))) T (rg_put I m 16 (mf_nextExpiry σ)) L) pr_no := by
  refine pr_ofG (by decide) rfl hl (Nat.le_of_ble_eq_true rfl) (fun X hA hX hXn hXt => ?_)
  subst hX
  show pr_G g X mX8_nextExpiry.2.2.1 _ 0 0 0 [.ref m] [] T (rg_put I m 16 σ) L
  have hn5 := mI_n5 hI
  have hr4 := mI_nr4 hI
  have hl24 := mI_nl24 hI
  have hn12 := mI_nn12 hI
  refine pr_aload_n hA dX8_nextExpiry_0 rfl ?_
  refine pr_iconst hA (0) dX8_nextExpiry_1 (by decide) ?_
  refine pr_putE (I' := (rg_put I m 16 (pr_up σ 0 6 (0 : Int32)))) hA f_X8_60 rfl (mo_k0 hm) (rg_up0 (by decide)) dX8_nextExpiry_2 ?_
  refine pr_aload_n hA dX8_nextExpiry_5 rfl ?_
  have hv6 : mI (pr_up σ 0 6 (0 : Int32)) := (mI.upn hI rfl)
  refine pr_callVi hA [] (c_m_nx (m := m) (σ := (pr_up σ 0 6 (0 : Int32))) (pr_hl hA) hm hv6) v_X8_284 (mo_k0 hm) (by decide) rfl rfl rfl (by decide) (Nat.zero_le _) (Nat.zero_le _) rfl (Nat.le_of_ble_eq_true rfl) dX8_nextExpiry_6 ?_
  exact pr_ireturn hA rfl rfl (Nat.zero_le _) (Nat.zero_le _) dX8_nextExpiry_9 ⟨rfl, rfl, rfl, rfl⟩

theorem fr_mf_nextExpiry {σ : pr_I}  {o : Nat} (hms : ∀ m ∈ ([0] : List Nat), o ≠ m) : mf_nextExpiry σ o = σ o := by
  unfold mf_nextExpiry
  simp only [List.mem_cons, List.not_mem_nil, or_false, forall_eq_or_imp, forall_eq] at hms
  rw [pr_up_ne (by omega)]

noncomputable def mf_nextEvent_r (σ : pr_I) : Int32 := (m_ne_r (pr_up σ 0 6 (0 : Int32)))
noncomputable def mf_nextEvent (σ : pr_I) : pr_I := (pr_up σ 0 6 (0 : Int32))
set_option maxRecDepth 100000 in
set_option maxHeartbeats 400000 in
theorem c_mf_nextEvent {g : pr_C} {l : Launch} (hl : l.stackTraces = false) {T : pr_T} {I : pr_I} {L : pr_L} {m : Nat} {σ : pr_I}  (hm : pr_Mo T m) (hI : mI σ) : pr_M g l 11 0 0 mX8_nextEvent [.ref m] T (rg_put I m 16 σ) L (pr_R (some (.int (mf_nextEvent_r σ))) T (rg_put I m 16 (mf_nextEvent σ)) L) pr_no := by
  refine pr_ofG (by decide) rfl hl (Nat.le_of_ble_eq_true rfl) (fun X hA hX hXn hXt => ?_)
  subst hX
  show pr_G g X mX8_nextEvent.2.2.1 _ 0 0 0 [.ref m] [] T (rg_put I m 16 σ) L
  have hn5 := mI_n5 hI
  have hr4 := mI_nr4 hI
  have hl24 := mI_nl24 hI
  have hn12 := mI_nn12 hI
  refine pr_aload_n hA dX8_nextEvent_0 rfl ?_
  refine pr_iconst hA (0) dX8_nextEvent_1 (by decide) ?_
  refine pr_putE (I' := (rg_put I m 16 (pr_up σ 0 6 (0 : Int32)))) hA f_X8_60 rfl (mo_k0 hm) (rg_up0 (by decide)) dX8_nextEvent_2 ?_
  refine pr_aload_n hA dX8_nextEvent_5 rfl ?_
  have hv6 : mI (pr_up σ 0 6 (0 : Int32)) := (mI.upn hI rfl)
  refine pr_callVi hA [] (c_m_ne (m := m) (σ := (pr_up σ 0 6 (0 : Int32))) (pr_hl hA) hm hv6) v_X8_287 (mo_k0 hm) (by decide) rfl rfl rfl (by decide) (Nat.zero_le _) (Nat.zero_le _) rfl (Nat.le_of_ble_eq_true rfl) dX8_nextEvent_6 ?_
  exact pr_ireturn hA rfl rfl (Nat.zero_le _) (Nat.zero_le _) dX8_nextEvent_9 ⟨rfl, rfl, rfl, rfl⟩

theorem fr_mf_nextEvent {σ : pr_I}  {o : Nat} (hms : ∀ m ∈ ([0] : List Nat), o ≠ m) : mf_nextEvent σ o = σ o := by
  unfold mf_nextEvent
  simp only [List.mem_cons, List.not_mem_nil, or_false, forall_eq_or_imp, forall_eq] at hms
  rw [pr_up_ne (by omega)]

noncomputable def mf_isSafe_rl7 (σ : pr_I) : Nat → Nat → Int32
  | 0, _ => 0
  | j + 1, k => (if (nI (mln σ)) ≤ (nI k) then (1 : Int32) else (if 0 ≤ (m_av_r (pr_up σ 0 6 (0 : Int32)) (mtn σ) k) then (mf_isSafe_rl7 σ j (k + 1)) else (0 : Int32)))
noncomputable def mf_isSafe_r (σ : pr_I) : Int32 := (mf_isSafe_rl7 σ ((mln σ) + 1) 0)
noncomputable def mf_isSafe (σ : pr_I) : pr_I := (pr_up σ 0 6 (0 : Int32))
set_option maxRecDepth 100000 in
set_option maxHeartbeats 400000 in
theorem c_mf_isSafe {g : pr_C} {l : Launch} (hl : l.stackTraces = false) {T : pr_T} {I : pr_I} {L : pr_L} {m : Nat} {σ : pr_I}  (hm : pr_Mo T m) (hI : mI σ) : pr_M g l 11 0 0 mX8_isSafe [.ref m] T (rg_put I m 16 σ) L (pr_R (some (.int (mf_isSafe_r σ))) T (rg_put I m 16 (mf_isSafe σ)) L) pr_no := by
  refine pr_ofG (by decide) rfl hl (Nat.le_of_ble_eq_true rfl) (fun X hA hX hXn hXt => ?_)
  subst hX
  show pr_G g X mX8_isSafe.2.2.1 _ 0 0 0 [.ref m, .null] [] T (rg_put I m 16 σ) L
  have hn5 := mI_n5 hI
  have hr4 := mI_nr4 hI
  have hl24 := mI_nl24 hI
  have hn12 := mI_nn12 hI
  refine pr_aload_n hA dX8_isSafe_0 rfl ?_
  refine pr_iconst hA (0) dX8_isSafe_1 (by decide) ?_
  refine pr_putE (I' := (rg_put I m 16 (pr_up σ 0 6 (0 : Int32)))) hA f_X8_60 rfl (mo_k0 hm) (rg_up0 (by decide)) dX8_isSafe_2 ?_
  refine pr_iconst hA (nI 0) dX8_isSafe_5 (by decide) ?_
  refine pr_istore_n (ls' := [_, _]) hA dX8_isSafe_6 (by decide) rfl ?_
  obtain ⟨R, hR0⟩ : ∃ R, mf_isSafe_rl7 σ ((mln σ) + 1) 0 = R := ⟨_, rfl⟩
  have hf : mf_isSafe_r σ = R := by simp only [mf_isSafe_r, hR0]
  have lp7 : ∀ (j k : Nat), (mln σ) + 1 - k = j → k ≤ (mln σ) → mf_isSafe_rl7 σ j k = R → pr_G g X mX8_isSafe.2.2.1 (pr_MQ g X (pr_R (some (.int (mf_isSafe_r σ))) T (rg_put I m 16 (mf_isSafe σ)) L) pr_no 0 0) 0 0 7 [.ref m, .int (nI k)] [] T (rg_put I m 16 (pr_up σ 0 6 (0 : Int32))) L := by
    intro j
    induction j with
    | zero => intro k  hj hk hR; omega
    | succ j ih =>
      intro k  hj hk hR
      refine pr_iload_n hA dX8_isSafe_7 rfl ?_
      refine pr_aload_n hA dX8_isSafe_8 rfl ?_
      refine pr_getR hA f_X8_9 rfl (mo_k0 hm) (mo_f0_0 hm) dX8_isSafe_9 ?_
      refine pr_bipush hA (nI 7) dX8_isSafe_12 (by decide) ?_
      refine pr_ialdM (v := (nI (mln σ))) hA (mo_k1 hm) (by omega) (by omega) ((rg_val (by decide)).trans ((pr_upv (by decide)).trans (mI_nl hI))) dX8_isSafe_14 ?_
      refine pr_icmp_ge hA 34 dX8_isSafe_15 (by decide) (fun c_15 => ?_) (fun c_15 => ?_)
      · have n_15 : (mln σ) ≤ k := (nI_leI (by omega) (by omega)).mp c_15
        refine pr_iconst hA (1) dX8_isSafe_34 (by decide) ?_
        simp only [mf_isSafe_rl7, if_pos c_15] at hR
        exact pr_ireturn hA rfl (pr_nb (by repeat (first | exact Or.inl rfl | exact Or.inr rfl | refine nb_ite ?_ ?_))) (Nat.zero_le _) (Nat.zero_le _) dX8_isSafe_35 ⟨(by rw [hf, ← hR]), rfl, rfl, rfl⟩
      · have n_15 : ¬ (mln σ) ≤ k := fun q => c_15 ((nI_leI (by omega) (by omega)).mpr q)
        refine pr_aload_n hA dX8_isSafe_18 rfl ?_
        refine pr_iload_n hA dX8_isSafe_19 rfl ?_
        refine pr_callVi hA [.int (nI k)] (c_m_av (m := m) (σ := (pr_up σ 0 6 (0 : Int32))) (n := (mtn σ)) (lk := k) (pr_hl hA) hm ((pr_upv (by decide)).trans (mI_n hI)) (mI_n5 hI) (by omega)) v_X8_209 (mo_k0 hm) (by decide) rfl rfl rfl (by decide) (Nat.zero_le _) (Nat.zero_le _) rfl (Nat.le_of_ble_eq_true rfl) dX8_isSafe_20 ?_
        refine pr_if_ge hA 28 dX8_isSafe_23 (by decide) (fun c_23 => ?_) (fun c_23 => ?_)
        · refine pr_iinc (ls' := [_, _]) hA (nI (k + 1)) dX8_isSafe_28 (by decide) rfl (nI_inc _) rfl ?_
          refine pr_goto hA 7 dX8_isSafe_31 (by decide) ?_
          simp only [mf_isSafe_rl7, if_neg c_15, if_pos c_23] at hR
          exact (ih (k + 1) (by omega) (by omega) hR)
        · refine pr_iconst hA (0) dX8_isSafe_26 (by decide) ?_
          simp only [mf_isSafe_rl7, if_neg c_15, if_neg c_23] at hR
          exact pr_ireturn hA rfl (pr_nb (by repeat (first | exact Or.inl rfl | exact Or.inr rfl | refine nb_ite ?_ ?_))) (Nat.zero_le _) (Nat.zero_le _) dX8_isSafe_27 ⟨(by rw [hf, ← hR]), rfl, rfl, rfl⟩
  exact (lp7 ((mln σ) + 1) 0 rfl (Nat.zero_le _) hR0)

theorem fr_mf_isSafe {σ : pr_I}  {o : Nat} (hms : ∀ m ∈ ([0] : List Nat), o ≠ m) : mf_isSafe σ o = σ o := by
  unfold mf_isSafe
  simp only [List.mem_cons, List.not_mem_nil, or_false, forall_eq_or_imp, forall_eq] at hms
  rw [pr_up_ne (by omega)]

noncomputable def mf_advance_r (σ : pr_I) (z : Int32) : Int32 := (if ((σ 1 0) + z) ≤ (1000000 : Int32) then ((m_gn (pr_up σ 0 6 (0 : Int32)) z) 1 0) else ((-2) : Int32))
noncomputable def mf_advance (σ : pr_I) (z : Int32) : pr_I := (if ((σ 1 0) + z) ≤ (1000000 : Int32) then (m_gn (pr_up σ 0 6 (0 : Int32)) z) else (pr_up σ 0 6 (0 : Int32)))
set_option maxRecDepth 100000 in
set_option maxHeartbeats 400000 in
theorem c_mf_advance {g : pr_C} {l : Launch} (hl : l.stackTraces = false) {T : pr_T} {I : pr_I} {L : pr_L} {m : Nat} {σ : pr_I} {z : Int32} (hm : pr_Mo T m) (hI : mI σ) (hz1 : 1 ≤ z) (hz2 : z ≤ 1000) (hok : (σ 1 0) + z ≤ (1000000 : Int32) → m_gn_ok (pr_up σ 0 6 (0 : Int32)) z) : pr_M g l 11 0 0 mX8_advance [.ref m, .int z] T (rg_put I m 16 σ) L (pr_R (some (.int (mf_advance_r σ z))) T (rg_put I m 16 (mf_advance σ z)) L) pr_no := by
  refine pr_ofG (by decide) rfl hl (Nat.le_of_ble_eq_true rfl) (fun X hA hX hXn hXt => ?_)
  subst hX
  show pr_G g X mX8_advance.2.2.1 _ 0 0 0 [.ref m, .int z] [] T (rg_put I m 16 σ) L
  have hn5 := mI_n5 hI
  have hr4 := mI_nr4 hI
  have hl24 := mI_nl24 hI
  have hn12 := mI_nn12 hI
  refine pr_aload_n hA dX8_advance_0 rfl ?_
  refine pr_iconst hA (0) dX8_advance_1 (by decide) ?_
  refine pr_putE (I' := (rg_put I m 16 (pr_up σ 0 6 (0 : Int32)))) hA f_X8_60 rfl (mo_k0 hm) (rg_up0 (by decide)) dX8_advance_2 ?_
  refine pr_aload_n hA dX8_advance_5 rfl ?_
  refine pr_iload_n hA dX8_advance_6 rfl ?_
  refine pr_i2l hA dX8_advance_7 ?_
  refine pr_lconst hA 1 dX8_advance_8 (by decide) ?_
  refine pr_ldc2 hA kK_X8_299 dX8_advance_9 ?_
  refine pr_callSi hA [.long ((z).toInt64), .long (1 : Int64), .long (1000 : Int64)] (c_inE (m := m) (σ := (pr_up σ 0 6 (0 : Int32))) (v := 1) (pr_hl hA) hm (in_z1 hz1 hz2 (by decide) (by decide))) s_X8_80 rfl (by decide) (Nat.zero_le _) (Nat.zero_le _) rfl (Nat.le_of_ble_eq_true rfl) dX8_advance_12 ?_
  refine pr_if_ne hA 22 dX8_advance_15 (by decide) (fun c_15 => ?_) (fun c_15 => ?_)
  · refine pr_iconst hA (0) dX8_advance_22 (by decide) ?_
    refine pr_iconst hA (1) dX8_advance_23 (by decide) ?_
    refine pr_callVi hA [.int (0 : Int32), .int (1 : Int32)] (c_tiE (m := m) (σ := (pr_up σ 0 6 (0 : Int32))) (pr_hl hA) hm (ti_0 pr_upe)) v_X8_301 (mo_k0 hm) (by decide) rfl rfl rfl (by decide) (Nat.zero_le _) (Nat.zero_le _) rfl (Nat.le_of_ble_eq_true rfl) dX8_advance_24 ?_
    refine pr_if_eq hA 32 dX8_advance_27 (by decide) (fun c_27 => ?_) (fun c_27 => ?_)
    · refine pr_aload_n hA dX8_advance_32 rfl ?_
      refine pr_getR hA f_X8_9 rfl (mo_k0 hm) (mo_f0_0 hm) dX8_advance_33 ?_
      refine pr_iconst hA (nI 0) dX8_advance_36 (by decide) ?_
      refine pr_ialdM (v := (σ 1 0)) hA (mo_k1 hm) (by omega) (by omega) ((rg_val (by decide)).trans (pr_upv (by decide))) dX8_advance_37 ?_
      refine pr_iload_n hA dX8_advance_38 rfl ?_
      refine pr_iadd hA dX8_advance_39 ?_
      refine pr_ldcw hA kK_X8_305 dX8_advance_40 ?_
      refine pr_icmp_le hA 49 dX8_advance_43 (by decide) (fun c_43 => ?_) (fun c_43 => ?_)
      · refine pr_aload_n hA dX8_advance_49 rfl ?_
        refine pr_iload_n hA dX8_advance_50 rfl ?_
        have hv51 : mI (pr_up σ 0 6 (0 : Int32)) := (mI.upn hI rfl)
        refine pr_callVv hA [.int z] (c_m_gn (m := m) (σ := (pr_up σ 0 6 (0 : Int32))) (z := z) (pr_hl hA) hm hv51 (hok c_43)) v_X8_306 (mo_k0 hm) (by decide) rfl rfl rfl (by decide) (Nat.zero_le _) (Nat.zero_le _) rfl (Nat.le_of_ble_eq_true rfl) dX8_advance_51 ?_
        refine pr_aload_n hA dX8_advance_54 rfl ?_
        refine pr_getR hA f_X8_9 rfl (mo_k0 hm) (mo_f0_0 hm) dX8_advance_55 ?_
        refine pr_iconst hA (nI 0) dX8_advance_58 (by decide) ?_
        refine pr_ialdM (v := ((m_gn (pr_up σ 0 6 (0 : Int32)) z) 1 0)) hA (mo_k1 hm) (by omega) (by omega) (rg_val (by decide)) dX8_advance_59 ?_
        exact pr_ireturn hA rfl rfl (Nat.zero_le _) (Nat.zero_le _) dX8_advance_60 ⟨(by simp only [mf_advance_r, if_pos c_43]), rfl, (by simp only [mf_advance, if_pos c_43]), rfl⟩
      · refine pr_bipush hA ((-2)) dX8_advance_46 (by decide) ?_
        exact pr_ireturn hA rfl rfl (Nat.zero_le _) (Nat.zero_le _) dX8_advance_48 ⟨(by simp only [mf_advance_r, if_neg c_43]), rfl, (by simp only [mf_advance, if_neg c_43]), rfl⟩
    · exact (c_27 (by decide)).elim
  · exact absurd c_15 (by decide)

theorem fr_mf_advance {σ : pr_I} {z : Int32} {o : Nat} (hms : ∀ m ∈ ([0, 1, 8, 9, 10] : List Nat), o ≠ m) : mf_advance σ z o = σ o := by
  unfold mf_advance
  simp only [List.mem_cons, List.not_mem_nil, or_false, forall_eq_or_imp, forall_eq] at hms
  by_cases c_43 : ((σ 1 0) + z) ≤ (1000000 : Int32)
  · refine (congrFun (if_pos c_43) o).trans ?_
    rw [fr_m_gn (by simp only [List.mem_cons, List.not_mem_nil, or_false, forall_eq_or_imp, forall_eq]; omega), pr_up_ne (by omega)]
  · refine (congrFun (if_neg c_43) o).trans ?_
    rw [pr_up_ne (by omega)]

theorem fw_mf_advance {σ : pr_I} {z : Int32} {j0 : Nat} (hj : j0 < 12) (hmw : ∀ m ∈ ([0, 9] : List Nat), j0 ≠ m) : mf_advance σ z 1 j0 = σ 1 j0 := by
  simp only [List.mem_cons, List.not_mem_nil, or_false, forall_eq_or_imp, forall_eq] at hmw
  unfold mf_advance
  by_cases c_43 : ((σ 1 0) + z) ≤ (1000000 : Int32)
  · rw [if_pos c_43]
    exact ((fw_m_gn hj (by simp only [List.mem_cons, List.not_mem_nil, or_false, forall_eq_or_imp, forall_eq]; omega)).trans (pr_upv (by decide)))
  · rw [if_neg c_43]
    exact (pr_upv (by decide))
