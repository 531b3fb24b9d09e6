/-! WHAT THE REFERENCE REFUSES -/
set_option maxRecDepth 100000 in
set_option maxHeartbeats 400000 in
theorem r_activeWithout_0 {g : pr_C} {l : Launch} (hl : l.stackTraces = false) {T : pr_T} {I : pr_I} {L : pr_L} {m : Nat} {σ : pr_I} {p1 : Int32} {p2 : Int32} (hm : pr_Mo T m) (hI : mI σ) (hf : ¬ vp_in p1 (mln σ)) : pr_M g l 11 0 0 mX8_activeWithout [.ref m, .int p1, .int p2] T (rg_put I m 16 σ) L (pr_R (some (.int 0)) T (rg_put I m 16 (pr_up σ 0 6 (1 : Int32))) L) pr_no := by
  refine pr_ofG (by decide) rfl hl (Nat.le_of_ble_eq_true rfl) (fun X hA hX hXn hXt => ?_)
  subst hX
  show pr_G g X mX8_activeWithout.2.2.1 _ 0 0 0 [.ref m, .int p1, .int p2, .null] [] T (rg_put I m 16 σ) L
  have hn5 := mI_n5 hI
  have hr4 := mI_nr4 hI
  have hl24 := mI_nl24 hI
  have hn12 := mI_nn12 hI
  refine pr_aload_n hA dX8_activeWithout_0 rfl ?_
  refine pr_iload_n hA dX8_activeWithout_1 rfl ?_
  have hv2 : mI σ := hI
  refine pr_callVi hA [.int p1] (c_nl_bad (m := m) (σ := σ) (pr_hl hA) hm hv2 hf) v_X8_315 (mo_k0 hm) (by decide) rfl rfl rfl (by decide) (Nat.zero_le _) (Nat.zero_le _) rfl (Nat.le_of_ble_eq_true rfl) dX8_activeWithout_2 ?_
  refine pr_if_ne hA 17 dX8_activeWithout_5 (by decide) (fun c_5 => ?_) (fun c_5 => ?_)
  · refine pr_iconst hA (0) dX8_activeWithout_17 (by decide) ?_
    exact pr_ireturn hA rfl rfl (Nat.zero_le _) (Nat.zero_le _) dX8_activeWithout_18 ⟨rfl, rfl, rfl, rfl⟩
  · exact absurd c_5 (by decide)

set_option maxRecDepth 100000 in
set_option maxHeartbeats 400000 in
theorem r_activeWithout_1 {g : pr_C} {l : Launch} (hl : l.stackTraces = false) {T : pr_T} {I : pr_I} {L : pr_L} {m : Nat} {σ : pr_I} {k1 : Nat} {p2 : Int32} (hm : pr_Mo T m) (hI : mI σ) (hk1 : k1 < mln σ) (hf : p2 < 0 ∨ 2000 < p2) : pr_M g l 11 0 0 mX8_activeWithout [.ref m, .int (nI k1), .int p2] T (rg_put I m 16 σ) L (pr_R (some (.int 0)) T (rg_put I m 16 (pr_up σ 0 6 (2 : Int32))) L) pr_no := by
  refine pr_ofG (by decide) rfl hl (Nat.le_of_ble_eq_true rfl) (fun X hA hX hXn hXt => ?_)
  subst hX
  show pr_G g X mX8_activeWithout.2.2.1 _ 0 0 0 [.ref m, .int (nI k1), .int p2, .null] [] T (rg_put I m 16 σ) L
  have hn5 := mI_n5 hI
  have hr4 := mI_nr4 hI
  have hl24 := mI_nl24 hI
  have hn12 := mI_nn12 hI
  refine pr_aload_n hA dX8_activeWithout_0 rfl ?_
  refine pr_iload_n hA dX8_activeWithout_1 rfl ?_
  have hv2 : mI σ := hI
  refine pr_callVi hA [.int (nI k1)] (c_nl_ok (m := m) (σ := σ) (pr_hl hA) hm hv2 (by omega)) v_X8_315 (mo_k0 hm) (by decide) rfl rfl rfl (by decide) (Nat.zero_le _) (Nat.zero_le _) rfl (Nat.le_of_ble_eq_true rfl) dX8_activeWithout_2 ?_
  refine pr_if_ne hA 17 dX8_activeWithout_5 (by decide) (fun c_5 => ?_) (fun c_5 => ?_)
  · exact (c_5 (by decide)).elim
  · refine pr_aload_n hA dX8_activeWithout_8 rfl ?_
    refine pr_iload_n hA dX8_activeWithout_9 rfl ?_
    refine pr_iconst hA (2) dX8_activeWithout_10 (by decide) ?_
    have hv11 : mI (pr_up σ 0 6 (0 : Int32)) := (mI.upn hI rfl)
    refine pr_callVi hA [.int p2, .int (2 : Int32)] (c_nt_bad (m := m) (σ := (pr_up σ 0 6 (0 : Int32))) (pr_hl hA) hm pr_upe hv11 (by decide) hf) v_X8_398 (mo_k0 hm) (by decide) rfl rfl rfl (by decide) (Nat.zero_le _) (Nat.zero_le _) rfl (Nat.le_of_ble_eq_true rfl) dX8_activeWithout_11 ?_
    refine pr_if_eq hA 19 dX8_activeWithout_14 (by decide) (fun c_14 => ?_) (fun c_14 => ?_)
    · exact absurd c_14 (by decide)
    · refine pr_iconst hA (0) dX8_activeWithout_17 (by decide) ?_
      exact pr_ireturn hA rfl rfl (Nat.zero_le _) (Nat.zero_le _) dX8_activeWithout_18 ⟨rfl, rfl, (by simp only [pr_up_two]), rfl⟩

set_option maxRecDepth 100000 in
set_option maxHeartbeats 400000 in
theorem r_advance_0 {g : pr_C} {l : Launch} (hl : l.stackTraces = false) {T : pr_T} {I : pr_I} {L : pr_L} {m : Nat} {σ : pr_I} {p1 : Int32} (hm : pr_Mo T m) (hI : mI σ) (hf : p1 < 1 ∨ 1000 < p1) : pr_M g l 11 0 0 mX8_advance [.ref m, .int p1] T (rg_put I m 16 σ) L (pr_R (some (.int 0)) T (rg_put I m 16 (pr_up σ 0 6 (1 : Int32))) L) pr_no := by
  refine pr_ofG (by decide) rfl hl (Nat.le_of_ble_eq_true rfl) (fun X hA hX hXn hXt => ?_)
  subst hX
  show pr_G g X mX8_advance.2.2.1 _ 0 0 0 [.ref m, .int p1] [] T (rg_put I m 16 σ) L
  have hn5 := mI_n5 hI
  have hr4 := mI_nr4 hI
  have hl24 := mI_nl24 hI
  have hn12 := mI_nn12 hI
  refine pr_aload_n hA dX8_advance_0 rfl ?_
  refine pr_iconst hA (0) dX8_advance_1 (by decide) ?_
  refine pr_putE (I' := (rg_put I m 16 (pr_up σ 0 6 (0 : Int32)))) hA f_X8_60 rfl (mo_k0 hm) (rg_up0 (by decide)) dX8_advance_2 ?_
  refine pr_aload_n hA dX8_advance_5 rfl ?_
  refine pr_iload_n hA dX8_advance_6 rfl ?_
  refine pr_i2l hA dX8_advance_7 ?_
  refine pr_lconst hA 1 dX8_advance_8 (by decide) ?_
  refine pr_ldc2 hA kK_X8_299 dX8_advance_9 ?_
  refine pr_callSi hA [.long ((p1).toInt64), .long (1 : Int64), .long (1000 : Int64)] (c_inE (m := m) (σ := (pr_up σ 0 6 (0 : Int32))) (v := 0) (pr_hl hA) hm (in_z0 hf (by decide) (by decide))) s_X8_80 rfl (by decide) (Nat.zero_le _) (Nat.zero_le _) rfl (Nat.le_of_ble_eq_true rfl) dX8_advance_12 ?_
  refine pr_if_ne hA 22 dX8_advance_15 (by decide) (fun c_15 => ?_) (fun c_15 => ?_)
  · exact (c_15 (by decide)).elim
  · refine pr_iconst hA (1) dX8_advance_18 (by decide) ?_
    refine pr_goto hA 23 dX8_advance_19 (by decide) ?_
    refine pr_iconst hA (1) dX8_advance_23 (by decide) ?_
    refine pr_callVi hA [.int (1 : Int32), .int (1 : Int32)] (c_tiE (m := m) (σ := (pr_up σ 0 6 (0 : Int32))) (pr_hl hA) hm (ti_1 pr_upe (by decide))) v_X8_301 (mo_k0 hm) (by decide) rfl rfl rfl (by decide) (Nat.zero_le _) (Nat.zero_le _) rfl (Nat.le_of_ble_eq_true rfl) dX8_advance_24 ?_
    refine pr_if_eq hA 32 dX8_advance_27 (by decide) (fun c_27 => ?_) (fun c_27 => ?_)
    · exact absurd c_27 (by decide)
    · refine pr_iconst hA (0) dX8_advance_30 (by decide) ?_
      exact pr_ireturn hA rfl rfl (Nat.zero_le _) (Nat.zero_le _) dX8_advance_31 ⟨rfl, rfl, (by simp only [pr_up_two]), rfl⟩

set_option maxRecDepth 100000 in
set_option maxHeartbeats 400000 in
theorem r_availableAfter_0 {g : pr_C} {l : Launch} (hl : l.stackTraces = false) {T : pr_T} {I : pr_I} {L : pr_L} {m : Nat} {σ : pr_I} {p1 : Int32} {p2 : Int32} (hm : pr_Mo T m) (hI : mI σ) (hf : ¬ vp_in p1 (mln σ)) : pr_M g l 11 0 0 mX8_availableAfter [.ref m, .int p1, .int p2] T (rg_put I m 16 σ) L (pr_R (some (.int 0)) T (rg_put I m 16 (pr_up σ 0 6 (1 : Int32))) L) pr_no := by
  refine pr_ofG (by decide) rfl hl (Nat.le_of_ble_eq_true rfl) (fun X hA hX hXn hXt => ?_)
  subst hX
  show pr_G g X mX8_availableAfter.2.2.1 _ 0 0 0 [.ref m, .int p1, .int p2, .null] [] T (rg_put I m 16 σ) L
  have hn5 := mI_n5 hI
  have hr4 := mI_nr4 hI
  have hl24 := mI_nl24 hI
  have hn12 := mI_nn12 hI
  refine pr_aload_n hA dX8_availableAfter_0 rfl ?_
  refine pr_iload_n hA dX8_availableAfter_1 rfl ?_
  have hv2 : mI σ := hI
  refine pr_callVi hA [.int p1] (c_nl_bad (m := m) (σ := σ) (pr_hl hA) hm hv2 hf) v_X8_315 (mo_k0 hm) (by decide) rfl rfl rfl (by decide) (Nat.zero_le _) (Nat.zero_le _) rfl (Nat.le_of_ble_eq_true rfl) dX8_availableAfter_2 ?_
  refine pr_if_ne hA 17 dX8_availableAfter_5 (by decide) (fun c_5 => ?_) (fun c_5 => ?_)
  · refine pr_iconst hA (0) dX8_availableAfter_17 (by decide) ?_
    exact pr_ireturn hA rfl rfl (Nat.zero_le _) (Nat.zero_le _) dX8_availableAfter_18 ⟨rfl, rfl, rfl, rfl⟩
  · exact absurd c_5 (by decide)

set_option maxRecDepth 100000 in
set_option maxHeartbeats 400000 in
theorem r_availableAfter_1 {g : pr_C} {l : Launch} (hl : l.stackTraces = false) {T : pr_T} {I : pr_I} {L : pr_L} {m : Nat} {σ : pr_I} {k1 : Nat} {p2 : Int32} (hm : pr_Mo T m) (hI : mI σ) (hk1 : k1 < mln σ) (hf : p2 < 0 ∨ 2000 < p2) : pr_M g l 11 0 0 mX8_availableAfter [.ref m, .int (nI k1), .int p2] T (rg_put I m 16 σ) L (pr_R (some (.int 0)) T (rg_put I m 16 (pr_up σ 0 6 (2 : Int32))) L) pr_no := by
  refine pr_ofG (by decide) rfl hl (Nat.le_of_ble_eq_true rfl) (fun X hA hX hXn hXt => ?_)
  subst hX
  show pr_G g X mX8_availableAfter.2.2.1 _ 0 0 0 [.ref m, .int (nI k1), .int p2, .null] [] T (rg_put I m 16 σ) L
  have hn5 := mI_n5 hI
  have hr4 := mI_nr4 hI
  have hl24 := mI_nl24 hI
  have hn12 := mI_nn12 hI
  refine pr_aload_n hA dX8_availableAfter_0 rfl ?_
  refine pr_iload_n hA dX8_availableAfter_1 rfl ?_
  have hv2 : mI σ := hI
  refine pr_callVi hA [.int (nI k1)] (c_nl_ok (m := m) (σ := σ) (pr_hl hA) hm hv2 (by omega)) v_X8_315 (mo_k0 hm) (by decide) rfl rfl rfl (by decide) (Nat.zero_le _) (Nat.zero_le _) rfl (Nat.le_of_ble_eq_true rfl) dX8_availableAfter_2 ?_
  refine pr_if_ne hA 17 dX8_availableAfter_5 (by decide) (fun c_5 => ?_) (fun c_5 => ?_)
  · exact (c_5 (by decide)).elim
  · refine pr_aload_n hA dX8_availableAfter_8 rfl ?_
    refine pr_iload_n hA dX8_availableAfter_9 rfl ?_
    refine pr_iconst hA (2) dX8_availableAfter_10 (by decide) ?_
    have hv11 : mI (pr_up σ 0 6 (0 : Int32)) := (mI.upn hI rfl)
    refine pr_callVi hA [.int p2, .int (2 : Int32)] (c_nt_bad (m := m) (σ := (pr_up σ 0 6 (0 : Int32))) (pr_hl hA) hm pr_upe hv11 (by decide) hf) v_X8_398 (mo_k0 hm) (by decide) rfl rfl rfl (by decide) (Nat.zero_le _) (Nat.zero_le _) rfl (Nat.le_of_ble_eq_true rfl) dX8_availableAfter_11 ?_
    refine pr_if_eq hA 19 dX8_availableAfter_14 (by decide) (fun c_14 => ?_) (fun c_14 => ?_)
    · exact absurd c_14 (by decide)
    · refine pr_iconst hA (0) dX8_availableAfter_17 (by decide) ?_
      exact pr_ireturn hA rfl rfl (Nat.zero_le _) (Nat.zero_le _) dX8_availableAfter_18 ⟨rfl, rfl, (by simp only [pr_up_two]), rfl⟩

set_option maxRecDepth 100000 in
set_option maxHeartbeats 400000 in
theorem r_bringUp_0 {g : pr_C} {l : Launch} (hl : l.stackTraces = false) {T : pr_T} {I : pr_I} {L : pr_L} {m : Nat} {σ : pr_I} {p1 : Int32} (hm : pr_Mo T m) (hI : mI σ) (hf : ¬ vp_in p1 (mln σ)) : pr_M g l 11 0 0 mX8_bringUp [.ref m, .int p1] T (rg_put I m 16 σ) L (pr_R (some (.int 0)) T (rg_put I m 16 (pr_up σ 0 6 (1 : Int32))) L) pr_no := by
  refine pr_ofG (by decide) rfl hl (Nat.le_of_ble_eq_true rfl) (fun X hA hX hXn hXt => ?_)
  subst hX
  show pr_G g X mX8_bringUp.2.2.1 _ 0 0 0 [.ref m, .int p1] [] T (rg_put I m 16 σ) L
  have hn5 := mI_n5 hI
  have hr4 := mI_nr4 hI
  have hl24 := mI_nl24 hI
  have hn12 := mI_nn12 hI
  refine pr_aload_n hA dX8_bringUp_0 rfl ?_
  refine pr_iload_n hA dX8_bringUp_1 rfl ?_
  have hv2 : mI σ := hI
  refine pr_callVi hA [.int p1] (c_nl_bad (m := m) (σ := σ) (pr_hl hA) hm hv2 hf) v_X8_315 (mo_k0 hm) (by decide) rfl rfl rfl (by decide) (Nat.zero_le _) (Nat.zero_le _) rfl (Nat.le_of_ble_eq_true rfl) dX8_bringUp_2 ?_
  refine pr_if_eq hA 10 dX8_bringUp_5 (by decide) (fun c_5 => ?_) (fun c_5 => ?_)
  · exact absurd c_5 (by decide)
  · refine pr_iconst hA (0) dX8_bringUp_8 (by decide) ?_
    exact pr_ireturn hA rfl rfl (Nat.zero_le _) (Nat.zero_le _) dX8_bringUp_9 ⟨rfl, rfl, rfl, rfl⟩

set_option maxRecDepth 100000 in
set_option maxHeartbeats 400000 in
theorem r_cancel_0 {g : pr_C} {l : Launch} (hl : l.stackTraces = false) {T : pr_T} {I : pr_I} {L : pr_L} {m : Nat} {σ : pr_I} {p1 : Int32} (hm : pr_Mo T m) (hI : mI σ) (hf : ¬ vp_in p1 (mrn σ)) : pr_M g l 11 0 0 mX8_cancel [.ref m, .int p1] T (rg_put I m 16 σ) L (pr_R (some (.int 0)) T (rg_put I m 16 (pr_up σ 0 6 (1 : Int32))) L) pr_no := by
  refine pr_ofG (by decide) rfl hl (Nat.le_of_ble_eq_true rfl) (fun X hA hX hXn hXt => ?_)
  subst hX
  show pr_G g X mX8_cancel.2.2.1 _ 0 0 0 [.ref m, .int p1, .null, .null, .null, .null] [] T (rg_put I m 16 σ) L
  have hn5 := mI_n5 hI
  have hr4 := mI_nr4 hI
  have hl24 := mI_nl24 hI
  have hn12 := mI_nn12 hI
  refine pr_aload_n hA dX8_cancel_0 rfl ?_
  refine pr_iload_n hA dX8_cancel_1 rfl ?_
  have hv2 : mI σ := hI
  refine pr_callVi hA [.int p1] (c_nq_bad (m := m) (σ := σ) (pr_hl hA) hm hv2 hf) v_X8_346 (mo_k0 hm) (by decide) rfl rfl rfl (by decide) (Nat.zero_le _) (Nat.zero_le _) rfl (Nat.le_of_ble_eq_true rfl) dX8_cancel_2 ?_
  refine pr_if_eq hA 10 dX8_cancel_5 (by decide) (fun c_5 => ?_) (fun c_5 => ?_)
  · exact absurd c_5 (by decide)
  · refine pr_iconst hA (0) dX8_cancel_8 (by decide) ?_
    exact pr_ireturn hA rfl rfl (Nat.zero_le _) (Nat.zero_le _) dX8_cancel_9 ⟨rfl, rfl, rfl, rfl⟩

set_option maxRecDepth 100000 in
set_option maxHeartbeats 400000 in
theorem r_cheapest_0 {g : pr_C} {l : Launch} (hl : l.stackTraces = false) {T : pr_T} {I : pr_I} {L : pr_L} {m : Nat} {σ : pr_I} {p1 : Int32} {p2 : Int32} {p3 : Int32} (hm : pr_Mo T m) (hI : mI σ) (hf : ¬ vp_in p1 (mnn σ) ∨ ¬ vp_in p2 (mnn σ)) : pr_M g l 11 0 0 mX8_cheapest [.ref m, .int p1, .int p2, .int p3] T (rg_put I m 16 σ) L (pr_R (some (.int 0)) T (rg_put I m 16 (pr_up σ 0 6 (1 : Int32))) L) pr_no := by
  refine pr_ofG (by decide) rfl hl (Nat.le_of_ble_eq_true rfl) (fun X hA hX hXn hXt => ?_)
  subst hX
  show pr_G g X mX8_cheapest.2.2.1 _ 0 0 0 [.ref m, .int p1, .int p2, .int p3] [] T (rg_put I m 16 σ) L
  have hn5 := mI_n5 hI
  have hr4 := mI_nr4 hI
  have hl24 := mI_nl24 hI
  have hn12 := mI_nn12 hI
  refine pr_aload_n hA dX8_cheapest_0 rfl ?_
  refine pr_iload_n hA dX8_cheapest_1 rfl ?_
  refine pr_iload_n hA dX8_cheapest_2 rfl ?_
  refine pr_iload_n hA dX8_cheapest_3 rfl ?_
  have hv4 : mI σ := hI
  refine pr_callVi hA [.int p1, .int p2, .int p3] (c_ne_bad (m := m) (σ := σ) (pr_hl hA) hm hv4 hf) v_X8_362 (mo_k0 hm) (by decide) rfl rfl rfl (by decide) (Nat.zero_le _) (Nat.zero_le _) rfl (Nat.le_of_ble_eq_true rfl) dX8_cheapest_4 ?_
  refine pr_if_eq hA 12 dX8_cheapest_7 (by decide) (fun c_7 => ?_) (fun c_7 => ?_)
  · exact absurd c_7 (by decide)
  · refine pr_iconst hA (0) dX8_cheapest_10 (by decide) ?_
    exact pr_ireturn hA rfl rfl (Nat.zero_le _) (Nat.zero_le _) dX8_cheapest_11 ⟨rfl, rfl, rfl, rfl⟩

set_option maxRecDepth 100000 in
set_option maxHeartbeats 400000 in
theorem r_cheapest_0e {g : pr_C} {l : Launch} (hl : l.stackTraces = false) {T : pr_T} {I : pr_I} {L : pr_L} {m : Nat} {σ : pr_I} {p1 : Int32} {p2 : Int32} {p3 : Int32} (hm : pr_Mo T m) (hI : mI σ) (hx : vp_in p1 (mnn σ)) (he : p1 = p2) : pr_M g l 11 0 0 mX8_cheapest [.ref m, .int p1, .int p2, .int p3] T (rg_put I m 16 σ) L (pr_R (some (.int 0)) T (rg_put I m 16 (pr_up σ 0 6 (2 : Int32))) L) pr_no := by
  refine pr_ofG (by decide) rfl hl (Nat.le_of_ble_eq_true rfl) (fun X hA hX hXn hXt => ?_)
  subst hX
  show pr_G g X mX8_cheapest.2.2.1 _ 0 0 0 [.ref m, .int p1, .int p2, .int p3] [] T (rg_put I m 16 σ) L
  have hn5 := mI_n5 hI
  have hr4 := mI_nr4 hI
  have hl24 := mI_nl24 hI
  have hn12 := mI_nn12 hI
  refine pr_aload_n hA dX8_cheapest_0 rfl ?_
  refine pr_iload_n hA dX8_cheapest_1 rfl ?_
  refine pr_iload_n hA dX8_cheapest_2 rfl ?_
  refine pr_iload_n hA dX8_cheapest_3 rfl ?_
  have hv4 : mI σ := hI
  refine pr_callVi hA [.int p1, .int p2, .int p3] (c_ne_eq (m := m) (σ := σ) (pr_hl hA) hm hv4 hx he) v_X8_362 (mo_k0 hm) (by decide) rfl rfl rfl (by decide) (Nat.zero_le _) (Nat.zero_le _) rfl (Nat.le_of_ble_eq_true rfl) dX8_cheapest_4 ?_
  refine pr_if_eq hA 12 dX8_cheapest_7 (by decide) (fun c_7 => ?_) (fun c_7 => ?_)
  · exact absurd c_7 (by decide)
  · refine pr_iconst hA (0) dX8_cheapest_10 (by decide) ?_
    exact pr_ireturn hA rfl rfl (Nat.zero_le _) (Nat.zero_le _) dX8_cheapest_11 ⟨rfl, rfl, rfl, rfl⟩

set_option maxRecDepth 100000 in
set_option maxHeartbeats 400000 in
theorem r_cheapest_0u {g : pr_C} {l : Launch} (hl : l.stackTraces = false) {T : pr_T} {I : pr_I} {L : pr_L} {m : Nat} {σ : pr_I} {k1 : Nat} {k2 : Nat} {p3 : Int32} (hm : pr_Mo T m) (hI : mI σ) (hk1 : k1 < mnn σ) (hk2 : k2 < mnn σ) (hst : k1 ≠ k2) (hf : p3 < 0 ∨ 1000 < p3) : pr_M g l 11 0 0 mX8_cheapest [.ref m, .int (nI k1), .int (nI k2), .int p3] T (rg_put I m 16 σ) L (pr_R (some (.int 0)) T (rg_put I m 16 (pr_up σ 0 6 (2 : Int32))) L) pr_no := by
  refine pr_ofG (by decide) rfl hl (Nat.le_of_ble_eq_true rfl) (fun X hA hX hXn hXt => ?_)
  subst hX
  show pr_G g X mX8_cheapest.2.2.1 _ 0 0 0 [.ref m, .int (nI k1), .int (nI k2), .int p3] [] T (rg_put I m 16 σ) L
  have hn5 := mI_n5 hI
  have hr4 := mI_nr4 hI
  have hl24 := mI_nl24 hI
  have hn12 := mI_nn12 hI
  refine pr_aload_n hA dX8_cheapest_0 rfl ?_
  refine pr_iload_n hA dX8_cheapest_1 rfl ?_
  refine pr_iload_n hA dX8_cheapest_2 rfl ?_
  refine pr_iload_n hA dX8_cheapest_3 rfl ?_
  have hv4 : mI σ := hI
  refine pr_callVi hA [.int (nI k1), .int (nI k2), .int p3] (c_ne_u (m := m) (σ := σ) (pr_hl hA) hm hv4 (by omega) (by omega) (by omega) hf) v_X8_362 (mo_k0 hm) (by decide) rfl rfl rfl (by decide) (Nat.zero_le _) (Nat.zero_le _) rfl (Nat.le_of_ble_eq_true rfl) dX8_cheapest_4 ?_
  refine pr_if_eq hA 12 dX8_cheapest_7 (by decide) (fun c_7 => ?_) (fun c_7 => ?_)
  · exact absurd c_7 (by decide)
  · refine pr_iconst hA (0) dX8_cheapest_10 (by decide) ?_
    exact pr_ireturn hA rfl rfl (Nat.zero_le _) (Nat.zero_le _) dX8_cheapest_11 ⟨rfl, rfl, rfl, rfl⟩

set_option maxRecDepth 100000 in
set_option maxHeartbeats 400000 in
theorem r_cheapestLink_0 {g : pr_C} {l : Launch} (hl : l.stackTraces = false) {T : pr_T} {I : pr_I} {L : pr_L} {m : Nat} {σ : pr_I} {p1 : Int32} {p2 : Int32} {p3 : Int32} {p4 : Int32} (hm : pr_Mo T m) (hI : mI σ) (hf : ¬ vp_in p1 (mnn σ) ∨ ¬ vp_in p2 (mnn σ)) : pr_M g l 11 0 0 mX8_cheapestLink [.ref m, .int p1, .int p2, .int p3, .int p4] T (rg_put I m 16 σ) L (pr_R (some (.int 0)) T (rg_put I m 16 (pr_up σ 0 6 (1 : Int32))) L) pr_no := by
  refine pr_ofG (by decide) rfl hl (Nat.le_of_ble_eq_true rfl) (fun X hA hX hXn hXt => ?_)
  subst hX
  show pr_G g X mX8_cheapestLink.2.2.1 _ 0 0 0 [.ref m, .int p1, .int p2, .int p3, .int p4] [] T (rg_put I m 16 σ) L
  have hn5 := mI_n5 hI
  have hr4 := mI_nr4 hI
  have hl24 := mI_nl24 hI
  have hn12 := mI_nn12 hI
  refine pr_aload_n hA dX8_cheapestLink_0 rfl ?_
  refine pr_iload_n hA dX8_cheapestLink_1 rfl ?_
  refine pr_iload_n hA dX8_cheapestLink_2 rfl ?_
  refine pr_iload_n hA dX8_cheapestLink_3 rfl ?_
  have hv4 : mI σ := hI
  refine pr_callVi hA [.int p1, .int p2, .int p3] (c_ne_bad (m := m) (σ := σ) (pr_hl hA) hm hv4 hf) v_X8_362 (mo_k0 hm) (by decide) rfl rfl rfl (by decide) (Nat.zero_le _) (Nat.zero_le _) rfl (Nat.le_of_ble_eq_true rfl) dX8_cheapestLink_4 ?_
  refine pr_if_eq hA 12 dX8_cheapestLink_7 (by decide) (fun c_7 => ?_) (fun c_7 => ?_)
  · exact absurd c_7 (by decide)
  · refine pr_iconst hA (0) dX8_cheapestLink_10 (by decide) ?_
    exact pr_ireturn hA rfl rfl (Nat.zero_le _) (Nat.zero_le _) dX8_cheapestLink_11 ⟨rfl, rfl, rfl, rfl⟩

set_option maxRecDepth 100000 in
set_option maxHeartbeats 400000 in
theorem r_cheapestLink_0e {g : pr_C} {l : Launch} (hl : l.stackTraces = false) {T : pr_T} {I : pr_I} {L : pr_L} {m : Nat} {σ : pr_I} {p1 : Int32} {p2 : Int32} {p3 : Int32} {p4 : Int32} (hm : pr_Mo T m) (hI : mI σ) (hx : vp_in p1 (mnn σ)) (he : p1 = p2) : pr_M g l 11 0 0 mX8_cheapestLink [.ref m, .int p1, .int p2, .int p3, .int p4] T (rg_put I m 16 σ) L (pr_R (some (.int 0)) T (rg_put I m 16 (pr_up σ 0 6 (2 : Int32))) L) pr_no := by
  refine pr_ofG (by decide) rfl hl (Nat.le_of_ble_eq_true rfl) (fun X hA hX hXn hXt => ?_)
  subst hX
  show pr_G g X mX8_cheapestLink.2.2.1 _ 0 0 0 [.ref m, .int p1, .int p2, .int p3, .int p4] [] T (rg_put I m 16 σ) L
  have hn5 := mI_n5 hI
  have hr4 := mI_nr4 hI
  have hl24 := mI_nl24 hI
  have hn12 := mI_nn12 hI
  refine pr_aload_n hA dX8_cheapestLink_0 rfl ?_
  refine pr_iload_n hA dX8_cheapestLink_1 rfl ?_
  refine pr_iload_n hA dX8_cheapestLink_2 rfl ?_
  refine pr_iload_n hA dX8_cheapestLink_3 rfl ?_
  have hv4 : mI σ := hI
  refine pr_callVi hA [.int p1, .int p2, .int p3] (c_ne_eq (m := m) (σ := σ) (pr_hl hA) hm hv4 hx he) v_X8_362 (mo_k0 hm) (by decide) rfl rfl rfl (by decide) (Nat.zero_le _) (Nat.zero_le _) rfl (Nat.le_of_ble_eq_true rfl) dX8_cheapestLink_4 ?_
  refine pr_if_eq hA 12 dX8_cheapestLink_7 (by decide) (fun c_7 => ?_) (fun c_7 => ?_)
  · exact absurd c_7 (by decide)
  · refine pr_iconst hA (0) dX8_cheapestLink_10 (by decide) ?_
    exact pr_ireturn hA rfl rfl (Nat.zero_le _) (Nat.zero_le _) dX8_cheapestLink_11 ⟨rfl, rfl, rfl, rfl⟩

set_option maxRecDepth 100000 in
set_option maxHeartbeats 400000 in
theorem r_cheapestLink_0u {g : pr_C} {l : Launch} (hl : l.stackTraces = false) {T : pr_T} {I : pr_I} {L : pr_L} {m : Nat} {σ : pr_I} {k1 : Nat} {k2 : Nat} {p3 : Int32} {p4 : Int32} (hm : pr_Mo T m) (hI : mI σ) (hk1 : k1 < mnn σ) (hk2 : k2 < mnn σ) (hst : k1 ≠ k2) (hf : p3 < 0 ∨ 1000 < p3) : pr_M g l 11 0 0 mX8_cheapestLink [.ref m, .int (nI k1), .int (nI k2), .int p3, .int p4] T (rg_put I m 16 σ) L (pr_R (some (.int 0)) T (rg_put I m 16 (pr_up σ 0 6 (2 : Int32))) L) pr_no := by
  refine pr_ofG (by decide) rfl hl (Nat.le_of_ble_eq_true rfl) (fun X hA hX hXn hXt => ?_)
  subst hX
  show pr_G g X mX8_cheapestLink.2.2.1 _ 0 0 0 [.ref m, .int (nI k1), .int (nI k2), .int p3, .int p4] [] T (rg_put I m 16 σ) L
  have hn5 := mI_n5 hI
  have hr4 := mI_nr4 hI
  have hl24 := mI_nl24 hI
  have hn12 := mI_nn12 hI
  refine pr_aload_n hA dX8_cheapestLink_0 rfl ?_
  refine pr_iload_n hA dX8_cheapestLink_1 rfl ?_
  refine pr_iload_n hA dX8_cheapestLink_2 rfl ?_
  refine pr_iload_n hA dX8_cheapestLink_3 rfl ?_
  have hv4 : mI σ := hI
  refine pr_callVi hA [.int (nI k1), .int (nI k2), .int p3] (c_ne_u (m := m) (σ := σ) (pr_hl hA) hm hv4 (by omega) (by omega) (by omega) hf) v_X8_362 (mo_k0 hm) (by decide) rfl rfl rfl (by decide) (Nat.zero_le _) (Nat.zero_le _) rfl (Nat.le_of_ble_eq_true rfl) dX8_cheapestLink_4 ?_
  refine pr_if_eq hA 12 dX8_cheapestLink_7 (by decide) (fun c_7 => ?_) (fun c_7 => ?_)
  · exact absurd c_7 (by decide)
  · refine pr_iconst hA (0) dX8_cheapestLink_10 (by decide) ?_
    exact pr_ireturn hA rfl rfl (Nat.zero_le _) (Nat.zero_le _) dX8_cheapestLink_11 ⟨rfl, rfl, rfl, rfl⟩

set_option maxRecDepth 100000 in
set_option maxHeartbeats 400000 in
theorem r_criticalLinks_0 {g : pr_C} {l : Launch} (hl : l.stackTraces = false) {T : pr_T} {I : pr_I} {L : pr_L} {m : Nat} {σ : pr_I} {p1 : Int32} {p2 : Int32} {p3 : Int32} (hm : pr_Mo T m) (hI : mI σ) (hf : ¬ vp_in p1 (mnn σ) ∨ ¬ vp_in p2 (mnn σ)) : pr_M g l 11 0 0 mX8_criticalLinks [.ref m, .int p1, .int p2, .int p3] T (rg_put I m 16 σ) L (pr_R (some (.int 0)) T (rg_put I m 16 (pr_up σ 0 6 (1 : Int32))) L) pr_no := by
  refine pr_ofG (by decide) rfl hl (Nat.le_of_ble_eq_true rfl) (fun X hA hX hXn hXt => ?_)
  subst hX
  show pr_G g X mX8_criticalLinks.2.2.1 _ 0 0 0 [.ref m, .int p1, .int p2, .int p3, .null, .null, .null] [] T (rg_put I m 16 σ) L
  have hn5 := mI_n5 hI
  have hr4 := mI_nr4 hI
  have hl24 := mI_nl24 hI
  have hn12 := mI_nn12 hI
  refine pr_aload_n hA dX8_criticalLinks_0 rfl ?_
  refine pr_iload_n hA dX8_criticalLinks_1 rfl ?_
  refine pr_iload_n hA dX8_criticalLinks_2 rfl ?_
  refine pr_iload_n hA dX8_criticalLinks_3 rfl ?_
  have hv4 : mI σ := hI
  refine pr_callVi hA [.int p1, .int p2, .int p3] (c_ne_bad (m := m) (σ := σ) (pr_hl hA) hm hv4 hf) v_X8_362 (mo_k0 hm) (by decide) rfl rfl rfl (by decide) (Nat.zero_le _) (Nat.zero_le _) rfl (Nat.le_of_ble_eq_true rfl) dX8_criticalLinks_4 ?_
  refine pr_if_eq hA 12 dX8_criticalLinks_7 (by decide) (fun c_7 => ?_) (fun c_7 => ?_)
  · exact absurd c_7 (by decide)
  · refine pr_iconst hA (0) dX8_criticalLinks_10 (by decide) ?_
    exact pr_ireturn hA rfl rfl (Nat.zero_le _) (Nat.zero_le _) dX8_criticalLinks_11 ⟨rfl, rfl, rfl, rfl⟩

set_option maxRecDepth 100000 in
set_option maxHeartbeats 400000 in
theorem r_criticalLinks_0e {g : pr_C} {l : Launch} (hl : l.stackTraces = false) {T : pr_T} {I : pr_I} {L : pr_L} {m : Nat} {σ : pr_I} {p1 : Int32} {p2 : Int32} {p3 : Int32} (hm : pr_Mo T m) (hI : mI σ) (hx : vp_in p1 (mnn σ)) (he : p1 = p2) : pr_M g l 11 0 0 mX8_criticalLinks [.ref m, .int p1, .int p2, .int p3] T (rg_put I m 16 σ) L (pr_R (some (.int 0)) T (rg_put I m 16 (pr_up σ 0 6 (2 : Int32))) L) pr_no := by
  refine pr_ofG (by decide) rfl hl (Nat.le_of_ble_eq_true rfl) (fun X hA hX hXn hXt => ?_)
  subst hX
  show pr_G g X mX8_criticalLinks.2.2.1 _ 0 0 0 [.ref m, .int p1, .int p2, .int p3, .null, .null, .null] [] T (rg_put I m 16 σ) L
  have hn5 := mI_n5 hI
  have hr4 := mI_nr4 hI
  have hl24 := mI_nl24 hI
  have hn12 := mI_nn12 hI
  refine pr_aload_n hA dX8_criticalLinks_0 rfl ?_
  refine pr_iload_n hA dX8_criticalLinks_1 rfl ?_
  refine pr_iload_n hA dX8_criticalLinks_2 rfl ?_
  refine pr_iload_n hA dX8_criticalLinks_3 rfl ?_
  have hv4 : mI σ := hI
  refine pr_callVi hA [.int p1, .int p2, .int p3] (c_ne_eq (m := m) (σ := σ) (pr_hl hA) hm hv4 hx he) v_X8_362 (mo_k0 hm) (by decide) rfl rfl rfl (by decide) (Nat.zero_le _) (Nat.zero_le _) rfl (Nat.le_of_ble_eq_true rfl) dX8_criticalLinks_4 ?_
  refine pr_if_eq hA 12 dX8_criticalLinks_7 (by decide) (fun c_7 => ?_) (fun c_7 => ?_)
  · exact absurd c_7 (by decide)
  · refine pr_iconst hA (0) dX8_criticalLinks_10 (by decide) ?_
    exact pr_ireturn hA rfl rfl (Nat.zero_le _) (Nat.zero_le _) dX8_criticalLinks_11 ⟨rfl, rfl, rfl, rfl⟩

set_option maxRecDepth 100000 in
set_option maxHeartbeats 400000 in
theorem r_criticalLinks_0u {g : pr_C} {l : Launch} (hl : l.stackTraces = false) {T : pr_T} {I : pr_I} {L : pr_L} {m : Nat} {σ : pr_I} {k1 : Nat} {k2 : Nat} {p3 : Int32} (hm : pr_Mo T m) (hI : mI σ) (hk1 : k1 < mnn σ) (hk2 : k2 < mnn σ) (hst : k1 ≠ k2) (hf : p3 < 0 ∨ 1000 < p3) : pr_M g l 11 0 0 mX8_criticalLinks [.ref m, .int (nI k1), .int (nI k2), .int p3] T (rg_put I m 16 σ) L (pr_R (some (.int 0)) T (rg_put I m 16 (pr_up σ 0 6 (2 : Int32))) L) pr_no := by
  refine pr_ofG (by decide) rfl hl (Nat.le_of_ble_eq_true rfl) (fun X hA hX hXn hXt => ?_)
  subst hX
  show pr_G g X mX8_criticalLinks.2.2.1 _ 0 0 0 [.ref m, .int (nI k1), .int (nI k2), .int p3, .null, .null, .null] [] T (rg_put I m 16 σ) L
  have hn5 := mI_n5 hI
  have hr4 := mI_nr4 hI
  have hl24 := mI_nl24 hI
  have hn12 := mI_nn12 hI
  refine pr_aload_n hA dX8_criticalLinks_0 rfl ?_
  refine pr_iload_n hA dX8_criticalLinks_1 rfl ?_
  refine pr_iload_n hA dX8_criticalLinks_2 rfl ?_
  refine pr_iload_n hA dX8_criticalLinks_3 rfl ?_
  have hv4 : mI σ := hI
  refine pr_callVi hA [.int (nI k1), .int (nI k2), .int p3] (c_ne_u (m := m) (σ := σ) (pr_hl hA) hm hv4 (by omega) (by omega) (by omega) hf) v_X8_362 (mo_k0 hm) (by decide) rfl rfl rfl (by decide) (Nat.zero_le _) (Nat.zero_le _) rfl (Nat.le_of_ble_eq_true rfl) dX8_criticalLinks_4 ?_
  refine pr_if_eq hA 12 dX8_criticalLinks_7 (by decide) (fun c_7 => ?_) (fun c_7 => ?_)
  · exact absurd c_7 (by decide)
  · refine pr_iconst hA (0) dX8_criticalLinks_10 (by decide) ?_
    exact pr_ireturn hA rfl rfl (Nat.zero_le _) (Nat.zero_le _) dX8_criticalLinks_11 ⟨rfl, rfl, rfl, rfl⟩

set_option maxRecDepth 100000 in
set_option maxHeartbeats 400000 in
theorem r_disjointPaths_0 {g : pr_C} {l : Launch} (hl : l.stackTraces = false) {T : pr_T} {I : pr_I} {L : pr_L} {m : Nat} {σ : pr_I} {p1 : Int32} {p2 : Int32} {p3 : Int32} (hm : pr_Mo T m) (hI : mI σ) (hf : ¬ vp_in p1 (mnn σ) ∨ ¬ vp_in p2 (mnn σ)) : pr_M g l 11 0 0 mX8_disjointPaths [.ref m, .int p1, .int p2, .int p3] T (rg_put I m 16 σ) L (pr_R (some (.int 0)) T (rg_put I m 16 (pr_up σ 0 6 (1 : Int32))) L) pr_no := by
  refine pr_ofG (by decide) rfl hl (Nat.le_of_ble_eq_true rfl) (fun X hA hX hXn hXt => ?_)
  subst hX
  show pr_G g X mX8_disjointPaths.2.2.1 _ 0 0 0 [.ref m, .int p1, .int p2, .int p3, .null, .null] [] T (rg_put I m 16 σ) L
  have hn5 := mI_n5 hI
  have hr4 := mI_nr4 hI
  have hl24 := mI_nl24 hI
  have hn12 := mI_nn12 hI
  refine pr_aload_n hA dX8_disjointPaths_0 rfl ?_
  refine pr_iload_n hA dX8_disjointPaths_1 rfl ?_
  refine pr_iload_n hA dX8_disjointPaths_2 rfl ?_
  refine pr_iload_n hA dX8_disjointPaths_3 rfl ?_
  have hv4 : mI σ := hI
  refine pr_callVi hA [.int p1, .int p2, .int p3] (c_ne_bad (m := m) (σ := σ) (pr_hl hA) hm hv4 hf) v_X8_362 (mo_k0 hm) (by decide) rfl rfl rfl (by decide) (Nat.zero_le _) (Nat.zero_le _) rfl (Nat.le_of_ble_eq_true rfl) dX8_disjointPaths_4 ?_
  refine pr_if_eq hA 12 dX8_disjointPaths_7 (by decide) (fun c_7 => ?_) (fun c_7 => ?_)
  · exact absurd c_7 (by decide)
  · refine pr_iconst hA (0) dX8_disjointPaths_10 (by decide) ?_
    exact pr_ireturn hA rfl rfl (Nat.zero_le _) (Nat.zero_le _) dX8_disjointPaths_11 ⟨rfl, rfl, rfl, rfl⟩

set_option maxRecDepth 100000 in
set_option maxHeartbeats 400000 in
theorem r_disjointPaths_0e {g : pr_C} {l : Launch} (hl : l.stackTraces = false) {T : pr_T} {I : pr_I} {L : pr_L} {m : Nat} {σ : pr_I} {p1 : Int32} {p2 : Int32} {p3 : Int32} (hm : pr_Mo T m) (hI : mI σ) (hx : vp_in p1 (mnn σ)) (he : p1 = p2) : pr_M g l 11 0 0 mX8_disjointPaths [.ref m, .int p1, .int p2, .int p3] T (rg_put I m 16 σ) L (pr_R (some (.int 0)) T (rg_put I m 16 (pr_up σ 0 6 (2 : Int32))) L) pr_no := by
  refine pr_ofG (by decide) rfl hl (Nat.le_of_ble_eq_true rfl) (fun X hA hX hXn hXt => ?_)
  subst hX
  show pr_G g X mX8_disjointPaths.2.2.1 _ 0 0 0 [.ref m, .int p1, .int p2, .int p3, .null, .null] [] T (rg_put I m 16 σ) L
  have hn5 := mI_n5 hI
  have hr4 := mI_nr4 hI
  have hl24 := mI_nl24 hI
  have hn12 := mI_nn12 hI
  refine pr_aload_n hA dX8_disjointPaths_0 rfl ?_
  refine pr_iload_n hA dX8_disjointPaths_1 rfl ?_
  refine pr_iload_n hA dX8_disjointPaths_2 rfl ?_
  refine pr_iload_n hA dX8_disjointPaths_3 rfl ?_
  have hv4 : mI σ := hI
  refine pr_callVi hA [.int p1, .int p2, .int p3] (c_ne_eq (m := m) (σ := σ) (pr_hl hA) hm hv4 hx he) v_X8_362 (mo_k0 hm) (by decide) rfl rfl rfl (by decide) (Nat.zero_le _) (Nat.zero_le _) rfl (Nat.le_of_ble_eq_true rfl) dX8_disjointPaths_4 ?_
  refine pr_if_eq hA 12 dX8_disjointPaths_7 (by decide) (fun c_7 => ?_) (fun c_7 => ?_)
  · exact absurd c_7 (by decide)
  · refine pr_iconst hA (0) dX8_disjointPaths_10 (by decide) ?_
    exact pr_ireturn hA rfl rfl (Nat.zero_le _) (Nat.zero_le _) dX8_disjointPaths_11 ⟨rfl, rfl, rfl, rfl⟩

set_option maxRecDepth 100000 in
set_option maxHeartbeats 400000 in
theorem r_disjointPaths_0u {g : pr_C} {l : Launch} (hl : l.stackTraces = false) {T : pr_T} {I : pr_I} {L : pr_L} {m : Nat} {σ : pr_I} {k1 : Nat} {k2 : Nat} {p3 : Int32} (hm : pr_Mo T m) (hI : mI σ) (hk1 : k1 < mnn σ) (hk2 : k2 < mnn σ) (hst : k1 ≠ k2) (hf : p3 < 0 ∨ 1000 < p3) : pr_M g l 11 0 0 mX8_disjointPaths [.ref m, .int (nI k1), .int (nI k2), .int p3] T (rg_put I m 16 σ) L (pr_R (some (.int 0)) T (rg_put I m 16 (pr_up σ 0 6 (2 : Int32))) L) pr_no := by
  refine pr_ofG (by decide) rfl hl (Nat.le_of_ble_eq_true rfl) (fun X hA hX hXn hXt => ?_)
  subst hX
  show pr_G g X mX8_disjointPaths.2.2.1 _ 0 0 0 [.ref m, .int (nI k1), .int (nI k2), .int p3, .null, .null] [] T (rg_put I m 16 σ) L
  have hn5 := mI_n5 hI
  have hr4 := mI_nr4 hI
  have hl24 := mI_nl24 hI
  have hn12 := mI_nn12 hI
  refine pr_aload_n hA dX8_disjointPaths_0 rfl ?_
  refine pr_iload_n hA dX8_disjointPaths_1 rfl ?_
  refine pr_iload_n hA dX8_disjointPaths_2 rfl ?_
  refine pr_iload_n hA dX8_disjointPaths_3 rfl ?_
  have hv4 : mI σ := hI
  refine pr_callVi hA [.int (nI k1), .int (nI k2), .int p3] (c_ne_u (m := m) (σ := σ) (pr_hl hA) hm hv4 (by omega) (by omega) (by omega) hf) v_X8_362 (mo_k0 hm) (by decide) rfl rfl rfl (by decide) (Nat.zero_le _) (Nat.zero_le _) rfl (Nat.le_of_ble_eq_true rfl) dX8_disjointPaths_4 ?_
  refine pr_if_eq hA 12 dX8_disjointPaths_7 (by decide) (fun c_7 => ?_) (fun c_7 => ?_)
  · exact absurd c_7 (by decide)
  · refine pr_iconst hA (0) dX8_disjointPaths_10 (by decide) ?_
    exact pr_ireturn hA rfl rfl (Nat.zero_le _) (Nat.zero_le _) dX8_disjointPaths_11 ⟨rfl, rfl, rfl, rfl⟩

set_option maxRecDepth 100000 in
set_option maxHeartbeats 400000 in
theorem r_extend_0 {g : pr_C} {l : Launch} (hl : l.stackTraces = false) {T : pr_T} {I : pr_I} {L : pr_L} {m : Nat} {σ : pr_I} {p1 : Int32} (hm : pr_Mo T m) (hI : mI σ) (hf : ¬ vp_in p1 (mrn σ)) : pr_M g l 11 0 0 mX8_extend [.ref m, .int p1] T (rg_put I m 16 σ) L (pr_R (some (.int 0)) T (rg_put I m 16 (pr_up σ 0 6 (1 : Int32))) L) pr_no := by
  refine pr_ofG (by decide) rfl hl (Nat.le_of_ble_eq_true rfl) (fun X hA hX hXn hXt => ?_)
  subst hX
  show pr_G g X mX8_extend.2.2.1 _ 0 0 0 [.ref m, .int p1, .null, .null] [] T (rg_put I m 16 σ) L
  have hn5 := mI_n5 hI
  have hr4 := mI_nr4 hI
  have hl24 := mI_nl24 hI
  have hn12 := mI_nn12 hI
  refine pr_aload_n hA dX8_extend_0 rfl ?_
  refine pr_iload_n hA dX8_extend_1 rfl ?_
  have hv2 : mI σ := hI
  refine pr_callVi hA [.int p1] (c_nq_bad (m := m) (σ := σ) (pr_hl hA) hm hv2 hf) v_X8_346 (mo_k0 hm) (by decide) rfl rfl rfl (by decide) (Nat.zero_le _) (Nat.zero_le _) rfl (Nat.le_of_ble_eq_true rfl) dX8_extend_2 ?_
  refine pr_if_eq hA 10 dX8_extend_5 (by decide) (fun c_5 => ?_) (fun c_5 => ?_)
  · exact absurd c_5 (by decide)
  · refine pr_iconst hA (0) dX8_extend_8 (by decide) ?_
    exact pr_ireturn hA rfl rfl (Nat.zero_le _) (Nat.zero_le _) dX8_extend_9 ⟨rfl, rfl, rfl, rfl⟩

set_option maxRecDepth 100000 in
set_option maxHeartbeats 400000 in
theorem r_greatestFlow_0 {g : pr_C} {l : Launch} (hl : l.stackTraces = false) {T : pr_T} {I : pr_I} {L : pr_L} {m : Nat} {σ : pr_I} {p1 : Int32} {p2 : Int32} (hm : pr_Mo T m) (hI : mI σ) (hf : ¬ vp_in p1 (mnn σ) ∨ ¬ vp_in p2 (mnn σ)) : pr_M g l 11 0 0 mX8_greatestFlow [.ref m, .int p1, .int p2] T (rg_put I m 16 σ) L (pr_R (some (.int 0)) T (rg_put I m 16 (pr_up σ 0 6 (1 : Int32))) L) pr_no := by
  refine pr_ofG (by decide) rfl hl (Nat.le_of_ble_eq_true rfl) (fun X hA hX hXn hXt => ?_)
  subst hX
  show pr_G g X mX8_greatestFlow.2.2.1 _ 0 0 0 [.ref m, .int p1, .int p2] [] T (rg_put I m 16 σ) L
  have hn5 := mI_n5 hI
  have hr4 := mI_nr4 hI
  have hl24 := mI_nl24 hI
  have hn12 := mI_nn12 hI
  refine pr_aload_n hA dX8_greatestFlow_0 rfl ?_
  refine pr_iload_n hA dX8_greatestFlow_1 rfl ?_
  refine pr_iload_n hA dX8_greatestFlow_2 rfl ?_
  have hv3 : mI σ := hI
  refine pr_callVi hA [.int p1, .int p2] (c_nn_bad (m := m) (σ := σ) (pr_hl hA) hm hv3 hf) v_X8_337 (mo_k0 hm) (by decide) rfl rfl rfl (by decide) (Nat.zero_le _) (Nat.zero_le _) rfl (Nat.le_of_ble_eq_true rfl) dX8_greatestFlow_3 ?_
  refine pr_if_eq hA 11 dX8_greatestFlow_6 (by decide) (fun c_6 => ?_) (fun c_6 => ?_)
  · exact absurd c_6 (by decide)
  · refine pr_iconst hA (0) dX8_greatestFlow_9 (by decide) ?_
    exact pr_ireturn hA rfl rfl (Nat.zero_le _) (Nat.zero_le _) dX8_greatestFlow_10 ⟨rfl, rfl, rfl, rfl⟩

set_option maxRecDepth 100000 in
set_option maxHeartbeats 400000 in
theorem r_greatestFlow_0e {g : pr_C} {l : Launch} (hl : l.stackTraces = false) {T : pr_T} {I : pr_I} {L : pr_L} {m : Nat} {σ : pr_I} {p1 : Int32} {p2 : Int32} (hm : pr_Mo T m) (hI : mI σ) (hx : vp_in p1 (mnn σ)) (he : p1 = p2) : pr_M g l 11 0 0 mX8_greatestFlow [.ref m, .int p1, .int p2] T (rg_put I m 16 σ) L (pr_R (some (.int 0)) T (rg_put I m 16 (pr_up σ 0 6 (2 : Int32))) L) pr_no := by
  refine pr_ofG (by decide) rfl hl (Nat.le_of_ble_eq_true rfl) (fun X hA hX hXn hXt => ?_)
  subst hX
  show pr_G g X mX8_greatestFlow.2.2.1 _ 0 0 0 [.ref m, .int p1, .int p2] [] T (rg_put I m 16 σ) L
  have hn5 := mI_n5 hI
  have hr4 := mI_nr4 hI
  have hl24 := mI_nl24 hI
  have hn12 := mI_nn12 hI
  refine pr_aload_n hA dX8_greatestFlow_0 rfl ?_
  refine pr_iload_n hA dX8_greatestFlow_1 rfl ?_
  refine pr_iload_n hA dX8_greatestFlow_2 rfl ?_
  have hv3 : mI σ := hI
  refine pr_callVi hA [.int p1, .int p2] (c_nn_eq (m := m) (σ := σ) (pr_hl hA) hm hv3 hx he) v_X8_337 (mo_k0 hm) (by decide) rfl rfl rfl (by decide) (Nat.zero_le _) (Nat.zero_le _) rfl (Nat.le_of_ble_eq_true rfl) dX8_greatestFlow_3 ?_
  refine pr_if_eq hA 11 dX8_greatestFlow_6 (by decide) (fun c_6 => ?_) (fun c_6 => ?_)
  · exact absurd c_6 (by decide)
  · refine pr_iconst hA (0) dX8_greatestFlow_9 (by decide) ?_
    exact pr_ireturn hA rfl rfl (Nat.zero_le _) (Nat.zero_le _) dX8_greatestFlow_10 ⟨rfl, rfl, rfl, rfl⟩

set_option maxRecDepth 100000 in
set_option maxHeartbeats 400000 in
theorem r_greatestNew_0 {g : pr_C} {l : Launch} (hl : l.stackTraces = false) {T : pr_T} {I : pr_I} {L : pr_L} {m : Nat} {σ : pr_I} {p1 : Int32} {p2 : Int32} (hm : pr_Mo T m) (hI : mI σ) (hf : ¬ vp_in p1 (mnn σ) ∨ ¬ vp_in p2 (mnn σ)) : pr_M g l 11 0 0 mX8_greatestNew [.ref m, .int p1, .int p2] T (rg_put I m 16 σ) L (pr_R (some (.int 0)) T (rg_put I m 16 (pr_up σ 0 6 (1 : Int32))) L) pr_no := by
  refine pr_ofG (by decide) rfl hl (Nat.le_of_ble_eq_true rfl) (fun X hA hX hXn hXt => ?_)
  subst hX
  show pr_G g X mX8_greatestNew.2.2.1 _ 0 0 0 [.ref m, .int p1, .int p2, .null] [] T (rg_put I m 16 σ) L
  have hn5 := mI_n5 hI
  have hr4 := mI_nr4 hI
  have hl24 := mI_nl24 hI
  have hn12 := mI_nn12 hI
  refine pr_aload_n hA dX8_greatestNew_0 rfl ?_
  refine pr_iload_n hA dX8_greatestNew_1 rfl ?_
  refine pr_iload_n hA dX8_greatestNew_2 rfl ?_
  have hv3 : mI σ := hI
  refine pr_callVi hA [.int p1, .int p2] (c_nn_bad (m := m) (σ := σ) (pr_hl hA) hm hv3 hf) v_X8_337 (mo_k0 hm) (by decide) rfl rfl rfl (by decide) (Nat.zero_le _) (Nat.zero_le _) rfl (Nat.le_of_ble_eq_true rfl) dX8_greatestNew_3 ?_
  refine pr_if_eq hA 11 dX8_greatestNew_6 (by decide) (fun c_6 => ?_) (fun c_6 => ?_)
  · exact absurd c_6 (by decide)
  · refine pr_iconst hA (0) dX8_greatestNew_9 (by decide) ?_
    exact pr_ireturn hA rfl rfl (Nat.zero_le _) (Nat.zero_le _) dX8_greatestNew_10 ⟨rfl, rfl, rfl, rfl⟩

set_option maxRecDepth 100000 in
set_option maxHeartbeats 400000 in
theorem r_greatestNew_0e {g : pr_C} {l : Launch} (hl : l.stackTraces = false) {T : pr_T} {I : pr_I} {L : pr_L} {m : Nat} {σ : pr_I} {p1 : Int32} {p2 : Int32} (hm : pr_Mo T m) (hI : mI σ) (hx : vp_in p1 (mnn σ)) (he : p1 = p2) : pr_M g l 11 0 0 mX8_greatestNew [.ref m, .int p1, .int p2] T (rg_put I m 16 σ) L (pr_R (some (.int 0)) T (rg_put I m 16 (pr_up σ 0 6 (2 : Int32))) L) pr_no := by
  refine pr_ofG (by decide) rfl hl (Nat.le_of_ble_eq_true rfl) (fun X hA hX hXn hXt => ?_)
  subst hX
  show pr_G g X mX8_greatestNew.2.2.1 _ 0 0 0 [.ref m, .int p1, .int p2, .null] [] T (rg_put I m 16 σ) L
  have hn5 := mI_n5 hI
  have hr4 := mI_nr4 hI
  have hl24 := mI_nl24 hI
  have hn12 := mI_nn12 hI
  refine pr_aload_n hA dX8_greatestNew_0 rfl ?_
  refine pr_iload_n hA dX8_greatestNew_1 rfl ?_
  refine pr_iload_n hA dX8_greatestNew_2 rfl ?_
  have hv3 : mI σ := hI
  refine pr_callVi hA [.int p1, .int p2] (c_nn_eq (m := m) (σ := σ) (pr_hl hA) hm hv3 hx he) v_X8_337 (mo_k0 hm) (by decide) rfl rfl rfl (by decide) (Nat.zero_le _) (Nat.zero_le _) rfl (Nat.le_of_ble_eq_true rfl) dX8_greatestNew_3 ?_
  refine pr_if_eq hA 11 dX8_greatestNew_6 (by decide) (fun c_6 => ?_) (fun c_6 => ?_)
  · exact absurd c_6 (by decide)
  · refine pr_iconst hA (0) dX8_greatestNew_9 (by decide) ?_
    exact pr_ireturn hA rfl rfl (Nat.zero_le _) (Nat.zero_le _) dX8_greatestNew_10 ⟨rfl, rfl, rfl, rfl⟩

set_option maxRecDepth 100000 in
set_option maxHeartbeats 400000 in
theorem r_inState_0 {g : pr_C} {l : Launch} (hl : l.stackTraces = false) {T : pr_T} {I : pr_I} {L : pr_L} {m : Nat} {σ : pr_I} {p1 : Int32} (hm : pr_Mo T m) (hI : mI σ) (hf : p1 < 0 ∨ 7 < p1) : pr_M g l 11 0 0 mX8_inState [.ref m, .int p1] T (rg_put I m 16 σ) L (pr_R (some (.int 0)) T (rg_put I m 16 (pr_up σ 0 6 (1 : Int32))) L) pr_no := by
  refine pr_ofG (by decide) rfl hl (Nat.le_of_ble_eq_true rfl) (fun X hA hX hXn hXt => ?_)
  subst hX
  show pr_G g X mX8_inState.2.2.1 _ 0 0 0 [.ref m, .int p1] [] T (rg_put I m 16 σ) L
  have hn5 := mI_n5 hI
  have hr4 := mI_nr4 hI
  have hl24 := mI_nl24 hI
  have hn12 := mI_nn12 hI
  refine pr_aload_n hA dX8_inState_0 rfl ?_
  refine pr_iconst hA (0) dX8_inState_1 (by decide) ?_
  refine pr_putE (I' := (rg_put I m 16 (pr_up σ 0 6 (0 : Int32)))) hA f_X8_60 rfl (mo_k0 hm) (rg_up0 (by decide)) dX8_inState_2 ?_
  refine pr_aload_n hA dX8_inState_5 rfl ?_
  refine pr_iload_n hA dX8_inState_6 rfl ?_
  refine pr_i2l hA dX8_inState_7 ?_
  refine pr_lconst hA 0 dX8_inState_8 (by decide) ?_
  refine pr_ldc2 hA kK_X8_351 dX8_inState_9 ?_
  refine pr_callSi hA [.long ((p1).toInt64), .long (0 : Int64), .long (7 : Int64)] (c_inE (m := m) (σ := (pr_up σ 0 6 (0 : Int32))) (v := 0) (pr_hl hA) hm (in_z0 hf (by decide) (by decide))) s_X8_80 rfl (by decide) (Nat.zero_le _) (Nat.zero_le _) rfl (Nat.le_of_ble_eq_true rfl) dX8_inState_12 ?_
  refine pr_if_ne hA 22 dX8_inState_15 (by decide) (fun c_15 => ?_) (fun c_15 => ?_)
  · exact (c_15 (by decide)).elim
  · refine pr_iconst hA (1) dX8_inState_18 (by decide) ?_
    refine pr_goto hA 23 dX8_inState_19 (by decide) ?_
    refine pr_iconst hA (1) dX8_inState_23 (by decide) ?_
    refine pr_callVi hA [.int (1 : Int32), .int (1 : Int32)] (c_tiE (m := m) (σ := (pr_up σ 0 6 (0 : Int32))) (pr_hl hA) hm (ti_1 pr_upe (by decide))) v_X8_301 (mo_k0 hm) (by decide) rfl rfl rfl (by decide) (Nat.zero_le _) (Nat.zero_le _) rfl (Nat.le_of_ble_eq_true rfl) dX8_inState_24 ?_
    refine pr_if_eq hA 34 dX8_inState_27 (by decide) (fun c_27 => ?_) (fun c_27 => ?_)
    · exact absurd c_27 (by decide)
    · refine pr_iconst hA (0) dX8_inState_30 (by decide) ?_
      refine pr_goto hA 39 dX8_inState_31 (by decide) ?_
      exact pr_ireturn hA rfl rfl (Nat.zero_le _) (Nat.zero_le _) dX8_inState_39 ⟨rfl, rfl, (by simp only [pr_up_two]), rfl⟩

set_option maxRecDepth 100000 in
set_option maxHeartbeats 400000 in
theorem r_linkValue_0 {g : pr_C} {l : Launch} (hl : l.stackTraces = false) {T : pr_T} {I : pr_I} {L : pr_L} {m : Nat} {σ : pr_I} {p1 : Int32} {p2 : Int32} (hm : pr_Mo T m) (hI : mI σ) (hf : ¬ vp_in p1 (mln σ)) : pr_M g l 11 0 0 mX8_linkValue [.ref m, .int p1, .int p2] T (rg_put I m 16 σ) L (pr_R (some (.int 0)) T (rg_put I m 16 (pr_up σ 0 6 (1 : Int32))) L) pr_no := by
  refine pr_ofG (by decide) rfl hl (Nat.le_of_ble_eq_true rfl) (fun X hA hX hXn hXt => ?_)
  subst hX
  show pr_G g X mX8_linkValue.2.2.1 _ 0 0 0 [.ref m, .int p1, .int p2] [] T (rg_put I m 16 σ) L
  have hn5 := mI_n5 hI
  have hr4 := mI_nr4 hI
  have hl24 := mI_nl24 hI
  have hn12 := mI_nn12 hI
  refine pr_aload_n hA dX8_linkValue_0 rfl ?_
  refine pr_iload_n hA dX8_linkValue_1 rfl ?_
  have hv2 : mI σ := hI
  refine pr_callVi hA [.int p1] (c_nl_bad (m := m) (σ := σ) (pr_hl hA) hm hv2 hf) v_X8_315 (mo_k0 hm) (by decide) rfl rfl rfl (by decide) (Nat.zero_le _) (Nat.zero_le _) rfl (Nat.le_of_ble_eq_true rfl) dX8_linkValue_2 ?_
  refine pr_if_ne hA 33 dX8_linkValue_5 (by decide) (fun c_5 => ?_) (fun c_5 => ?_)
  · refine pr_iconst hA (0) dX8_linkValue_33 (by decide) ?_
    exact pr_ireturn hA rfl rfl (Nat.zero_le _) (Nat.zero_le _) dX8_linkValue_34 ⟨rfl, rfl, rfl, rfl⟩
  · exact absurd c_5 (by decide)

set_option maxRecDepth 100000 in
set_option maxHeartbeats 400000 in
theorem r_linkValue_1 {g : pr_C} {l : Launch} (hl : l.stackTraces = false) {T : pr_T} {I : pr_I} {L : pr_L} {m : Nat} {σ : pr_I} {k1 : Nat} {p2 : Int32} (hm : pr_Mo T m) (hI : mI σ) (hk1 : k1 < mln σ) (hf : p2 < 0 ∨ 8 < p2) : pr_M g l 11 0 0 mX8_linkValue [.ref m, .int (nI k1), .int p2] T (rg_put I m 16 σ) L (pr_R (some (.int 0)) T (rg_put I m 16 (pr_up σ 0 6 (2 : Int32))) L) pr_no := by
  refine pr_ofG (by decide) rfl hl (Nat.le_of_ble_eq_true rfl) (fun X hA hX hXn hXt => ?_)
  subst hX
  show pr_G g X mX8_linkValue.2.2.1 _ 0 0 0 [.ref m, .int (nI k1), .int p2] [] T (rg_put I m 16 σ) L
  have hn5 := mI_n5 hI
  have hr4 := mI_nr4 hI
  have hl24 := mI_nl24 hI
  have hn12 := mI_nn12 hI
  refine pr_aload_n hA dX8_linkValue_0 rfl ?_
  refine pr_iload_n hA dX8_linkValue_1 rfl ?_
  have hv2 : mI σ := hI
  refine pr_callVi hA [.int (nI k1)] (c_nl_ok (m := m) (σ := σ) (pr_hl hA) hm hv2 (by omega)) v_X8_315 (mo_k0 hm) (by decide) rfl rfl rfl (by decide) (Nat.zero_le _) (Nat.zero_le _) rfl (Nat.le_of_ble_eq_true rfl) dX8_linkValue_2 ?_
  refine pr_if_ne hA 33 dX8_linkValue_5 (by decide) (fun c_5 => ?_) (fun c_5 => ?_)
  · exact (c_5 (by decide)).elim
  · refine pr_aload_n hA dX8_linkValue_8 rfl ?_
    refine pr_iload_n hA dX8_linkValue_9 rfl ?_
    refine pr_i2l hA dX8_linkValue_10 ?_
    refine pr_lconst hA 0 dX8_linkValue_11 (by decide) ?_
    refine pr_ldc2 hA kK_X8_318 dX8_linkValue_12 ?_
    refine pr_callSi hA [.long ((p2).toInt64), .long (0 : Int64), .long (8 : Int64)] (c_inE (m := m) (σ := (pr_up σ 0 6 (0 : Int32))) (v := 0) (pr_hl hA) hm (in_z0 hf (by decide) (by decide))) s_X8_80 rfl (by decide) (Nat.zero_le _) (Nat.zero_le _) rfl (Nat.le_of_ble_eq_true rfl) dX8_linkValue_15 ?_
    refine pr_if_ne hA 25 dX8_linkValue_18 (by decide) (fun c_18 => ?_) (fun c_18 => ?_)
    · exact (c_18 (by decide)).elim
    · refine pr_iconst hA (1) dX8_linkValue_21 (by decide) ?_
      refine pr_goto hA 26 dX8_linkValue_22 (by decide) ?_
      refine pr_iconst hA (2) dX8_linkValue_26 (by decide) ?_
      refine pr_callVi hA [.int (1 : Int32), .int (2 : Int32)] (c_tiE (m := m) (σ := (pr_up σ 0 6 (0 : Int32))) (pr_hl hA) hm (ti_1 pr_upe (by decide))) v_X8_301 (mo_k0 hm) (by decide) rfl rfl rfl (by decide) (Nat.zero_le _) (Nat.zero_le _) rfl (Nat.le_of_ble_eq_true rfl) dX8_linkValue_27 ?_
      refine pr_if_eq hA 35 dX8_linkValue_30 (by decide) (fun c_30 => ?_) (fun c_30 => ?_)
      · exact absurd c_30 (by decide)
      · refine pr_iconst hA (0) dX8_linkValue_33 (by decide) ?_
        exact pr_ireturn hA rfl rfl (Nat.zero_le _) (Nat.zero_le _) dX8_linkValue_34 ⟨rfl, rfl, (by simp only [pr_up_two]), rfl⟩

set_option maxRecDepth 100000 in
set_option maxHeartbeats 400000 in
theorem r_nameLetter_0 {g : pr_C} {l : Launch} (hl : l.stackTraces = false) {T : pr_T} {I : pr_I} {L : pr_L} {m : Nat} {σ : pr_I} {p1 : Int32} {p2 : Int32} (hm : pr_Mo T m) (hI : mI σ) (hf : ¬ vp_in p1 (mnn σ)) : pr_M g l 11 0 0 mX8_nameLetter [.ref m, .int p1, .int p2] T (rg_put I m 16 σ) L (pr_R (some (.int 0)) T (rg_put I m 16 (pr_up σ 0 6 (1 : Int32))) L) pr_no := by
  refine pr_ofG (by decide) rfl hl (Nat.le_of_ble_eq_true rfl) (fun X hA hX hXn hXt => ?_)
  subst hX
  show pr_G g X mX8_nameLetter.2.2.1 _ 0 0 0 [.ref m, .int p1, .int p2, .null] [] T (rg_put I m 16 σ) L
  have hn5 := mI_n5 hI
  have hr4 := mI_nr4 hI
  have hl24 := mI_nl24 hI
  have hn12 := mI_nn12 hI
  refine pr_aload_n hA dX8_nameLetter_0 rfl ?_
  refine pr_iconst hA (0) dX8_nameLetter_1 (by decide) ?_
  refine pr_putE (I' := (rg_put I m 16 (pr_up σ 0 6 (0 : Int32)))) hA f_X8_60 rfl (mo_k0 hm) (rg_up0 (by decide)) dX8_nameLetter_2 ?_
  refine pr_aload_n hA dX8_nameLetter_5 rfl ?_
  refine pr_aload_n hA dX8_nameLetter_6 rfl ?_
  refine pr_iload_n hA dX8_nameLetter_7 rfl ?_
  have hv8 : mI (pr_up σ 0 6 (0 : Int32)) := (mI.upn hI rfl)
  have hq8 : mnn (pr_up σ 0 6 (0 : Int32)) = mnn σ := rfl
  refine pr_callVi hA [.int p1] (c_nd_bad (m := m) (σ := (pr_up σ 0 6 (0 : Int32))) (pr_hl hA) hm hv8 hf) v_X8_312 (mo_k0 hm) (by decide) rfl rfl rfl (by decide) (Nat.zero_le _) (Nat.zero_le _) rfl (Nat.le_of_ble_eq_true rfl) dX8_nameLetter_8 ?_
  refine pr_if_ne hA 18 dX8_nameLetter_11 (by decide) (fun c_11 => ?_) (fun c_11 => ?_)
  · exact (c_11 (by decide)).elim
  · refine pr_iconst hA (1) dX8_nameLetter_14 (by decide) ?_
    refine pr_goto hA 19 dX8_nameLetter_15 (by decide) ?_
    refine pr_iconst hA (1) dX8_nameLetter_19 (by decide) ?_
    refine pr_callVi hA [.int (1 : Int32), .int (1 : Int32)] (c_tiE (m := m) (σ := (pr_up σ 0 6 (0 : Int32))) (pr_hl hA) hm (ti_1 pr_upe (by decide))) v_X8_301 (mo_k0 hm) (by decide) rfl rfl rfl (by decide) (Nat.zero_le _) (Nat.zero_le _) rfl (Nat.le_of_ble_eq_true rfl) dX8_nameLetter_20 ?_
    refine pr_if_eq hA 28 dX8_nameLetter_23 (by decide) (fun c_23 => ?_) (fun c_23 => ?_)
    · exact absurd c_23 (by decide)
    · refine pr_iconst hA (0) dX8_nameLetter_26 (by decide) ?_
      exact pr_ireturn hA rfl rfl (Nat.zero_le _) (Nat.zero_le _) dX8_nameLetter_27 ⟨rfl, rfl, (by simp only [pr_up_two]), rfl⟩

set_option maxRecDepth 100000 in
set_option maxHeartbeats 400000 in
theorem r_neededHold_0 {g : pr_C} {l : Launch} (hl : l.stackTraces = false) {T : pr_T} {I : pr_I} {L : pr_L} {m : Nat} {σ : pr_I} {p1 : Int32} {p2 : Int32} {p3 : Int32} (hm : pr_Mo T m) (hI : mI σ) (hf : ¬ vp_in p1 (mnn σ) ∨ ¬ vp_in p2 (mnn σ)) : pr_M g l 11 0 0 mX8_neededHold [.ref m, .int p1, .int p2, .int p3] T (rg_put I m 16 σ) L (pr_R (some (.int 0)) T (rg_put I m 16 (pr_up σ 0 6 (1 : Int32))) L) pr_no := by
  refine pr_ofG (by decide) rfl hl (Nat.le_of_ble_eq_true rfl) (fun X hA hX hXn hXt => ?_)
  subst hX
  show pr_G g X mX8_neededHold.2.2.1 _ 0 0 0 [.ref m, .int p1, .int p2, .int p3, .null, .null] [] T (rg_put I m 16 σ) L
  have hn5 := mI_n5 hI
  have hr4 := mI_nr4 hI
  have hl24 := mI_nl24 hI
  have hn12 := mI_nn12 hI
  refine pr_aload_n hA dX8_neededHold_0 rfl ?_
  refine pr_iload_n hA dX8_neededHold_1 rfl ?_
  refine pr_iload_n hA dX8_neededHold_2 rfl ?_
  refine pr_iload_n hA dX8_neededHold_3 rfl ?_
  have hv4 : mI σ := hI
  refine pr_callVi hA [.int p1, .int p2, .int p3] (c_ne_bad (m := m) (σ := σ) (pr_hl hA) hm hv4 hf) v_X8_362 (mo_k0 hm) (by decide) rfl rfl rfl (by decide) (Nat.zero_le _) (Nat.zero_le _) rfl (Nat.le_of_ble_eq_true rfl) dX8_neededHold_4 ?_
  refine pr_if_eq hA 12 dX8_neededHold_7 (by decide) (fun c_7 => ?_) (fun c_7 => ?_)
  · exact absurd c_7 (by decide)
  · refine pr_iconst hA (0) dX8_neededHold_10 (by decide) ?_
    exact pr_ireturn hA rfl rfl (Nat.zero_le _) (Nat.zero_le _) dX8_neededHold_11 ⟨rfl, rfl, rfl, rfl⟩

set_option maxRecDepth 100000 in
set_option maxHeartbeats 400000 in
theorem r_neededHold_0e {g : pr_C} {l : Launch} (hl : l.stackTraces = false) {T : pr_T} {I : pr_I} {L : pr_L} {m : Nat} {σ : pr_I} {p1 : Int32} {p2 : Int32} {p3 : Int32} (hm : pr_Mo T m) (hI : mI σ) (hx : vp_in p1 (mnn σ)) (he : p1 = p2) : pr_M g l 11 0 0 mX8_neededHold [.ref m, .int p1, .int p2, .int p3] T (rg_put I m 16 σ) L (pr_R (some (.int 0)) T (rg_put I m 16 (pr_up σ 0 6 (2 : Int32))) L) pr_no := by
  refine pr_ofG (by decide) rfl hl (Nat.le_of_ble_eq_true rfl) (fun X hA hX hXn hXt => ?_)
  subst hX
  show pr_G g X mX8_neededHold.2.2.1 _ 0 0 0 [.ref m, .int p1, .int p2, .int p3, .null, .null] [] T (rg_put I m 16 σ) L
  have hn5 := mI_n5 hI
  have hr4 := mI_nr4 hI
  have hl24 := mI_nl24 hI
  have hn12 := mI_nn12 hI
  refine pr_aload_n hA dX8_neededHold_0 rfl ?_
  refine pr_iload_n hA dX8_neededHold_1 rfl ?_
  refine pr_iload_n hA dX8_neededHold_2 rfl ?_
  refine pr_iload_n hA dX8_neededHold_3 rfl ?_
  have hv4 : mI σ := hI
  refine pr_callVi hA [.int p1, .int p2, .int p3] (c_ne_eq (m := m) (σ := σ) (pr_hl hA) hm hv4 hx he) v_X8_362 (mo_k0 hm) (by decide) rfl rfl rfl (by decide) (Nat.zero_le _) (Nat.zero_le _) rfl (Nat.le_of_ble_eq_true rfl) dX8_neededHold_4 ?_
  refine pr_if_eq hA 12 dX8_neededHold_7 (by decide) (fun c_7 => ?_) (fun c_7 => ?_)
  · exact absurd c_7 (by decide)
  · refine pr_iconst hA (0) dX8_neededHold_10 (by decide) ?_
    exact pr_ireturn hA rfl rfl (Nat.zero_le _) (Nat.zero_le _) dX8_neededHold_11 ⟨rfl, rfl, rfl, rfl⟩

set_option maxRecDepth 100000 in
set_option maxHeartbeats 400000 in
theorem r_neededHold_0u {g : pr_C} {l : Launch} (hl : l.stackTraces = false) {T : pr_T} {I : pr_I} {L : pr_L} {m : Nat} {σ : pr_I} {k1 : Nat} {k2 : Nat} {p3 : Int32} (hm : pr_Mo T m) (hI : mI σ) (hk1 : k1 < mnn σ) (hk2 : k2 < mnn σ) (hst : k1 ≠ k2) (hf : p3 < 0 ∨ 1000 < p3) : pr_M g l 11 0 0 mX8_neededHold [.ref m, .int (nI k1), .int (nI k2), .int p3] T (rg_put I m 16 σ) L (pr_R (some (.int 0)) T (rg_put I m 16 (pr_up σ 0 6 (2 : Int32))) L) pr_no := by
  refine pr_ofG (by decide) rfl hl (Nat.le_of_ble_eq_true rfl) (fun X hA hX hXn hXt => ?_)
  subst hX
  show pr_G g X mX8_neededHold.2.2.1 _ 0 0 0 [.ref m, .int (nI k1), .int (nI k2), .int p3, .null, .null] [] T (rg_put I m 16 σ) L
  have hn5 := mI_n5 hI
  have hr4 := mI_nr4 hI
  have hl24 := mI_nl24 hI
  have hn12 := mI_nn12 hI
  refine pr_aload_n hA dX8_neededHold_0 rfl ?_
  refine pr_iload_n hA dX8_neededHold_1 rfl ?_
  refine pr_iload_n hA dX8_neededHold_2 rfl ?_
  refine pr_iload_n hA dX8_neededHold_3 rfl ?_
  have hv4 : mI σ := hI
  refine pr_callVi hA [.int (nI k1), .int (nI k2), .int p3] (c_ne_u (m := m) (σ := σ) (pr_hl hA) hm hv4 (by omega) (by omega) (by omega) hf) v_X8_362 (mo_k0 hm) (by decide) rfl rfl rfl (by decide) (Nat.zero_le _) (Nat.zero_le _) rfl (Nat.le_of_ble_eq_true rfl) dX8_neededHold_4 ?_
  refine pr_if_eq hA 12 dX8_neededHold_7 (by decide) (fun c_7 => ?_) (fun c_7 => ?_)
  · exact absurd c_7 (by decide)
  · refine pr_iconst hA (0) dX8_neededHold_10 (by decide) ?_
    exact pr_ireturn hA rfl rfl (Nat.zero_le _) (Nat.zero_le _) dX8_neededHold_11 ⟨rfl, rfl, rfl, rfl⟩

set_option maxRecDepth 100000 in
set_option maxHeartbeats 400000 in
theorem r_pathLength_0 {g : pr_C} {l : Launch} (hl : l.stackTraces = false) {T : pr_T} {I : pr_I} {L : pr_L} {m : Nat} {σ : pr_I} {p1 : Int32} (hm : pr_Mo T m) (hI : mI σ) (hf : ¬ vp_in p1 (mrn σ)) : pr_M g l 11 0 0 mX8_pathLength [.ref m, .int p1] T (rg_put I m 16 σ) L (pr_R (some (.int 0)) T (rg_put I m 16 (pr_up σ 0 6 (1 : Int32))) L) pr_no := by
  refine pr_ofG (by decide) rfl hl (Nat.le_of_ble_eq_true rfl) (fun X hA hX hXn hXt => ?_)
  subst hX
  show pr_G g X mX8_pathLength.2.2.1 _ 0 0 0 [.ref m, .int p1] [] T (rg_put I m 16 σ) L
  have hn5 := mI_n5 hI
  have hr4 := mI_nr4 hI
  have hl24 := mI_nl24 hI
  have hn12 := mI_nn12 hI
  refine pr_aload_n hA dX8_pathLength_0 rfl ?_
  refine pr_iload_n hA dX8_pathLength_1 rfl ?_
  have hv2 : mI σ := hI
  refine pr_callVi hA [.int p1] (c_nq_bad (m := m) (σ := σ) (pr_hl hA) hm hv2 hf) v_X8_346 (mo_k0 hm) (by decide) rfl rfl rfl (by decide) (Nat.zero_le _) (Nat.zero_le _) rfl (Nat.le_of_ble_eq_true rfl) dX8_pathLength_2 ?_
  refine pr_if_eq hA 12 dX8_pathLength_5 (by decide) (fun c_5 => ?_) (fun c_5 => ?_)
  · exact absurd c_5 (by decide)
  · refine pr_iconst hA (0) dX8_pathLength_8 (by decide) ?_
    refine pr_goto hA 19 dX8_pathLength_9 (by decide) ?_
    exact pr_ireturn hA rfl rfl (Nat.zero_le _) (Nat.zero_le _) dX8_pathLength_19 ⟨rfl, rfl, rfl, rfl⟩

set_option maxRecDepth 100000 in
set_option maxHeartbeats 400000 in
theorem r_pathLink_0 {g : pr_C} {l : Launch} (hl : l.stackTraces = false) {T : pr_T} {I : pr_I} {L : pr_L} {m : Nat} {σ : pr_I} {p1 : Int32} {p2 : Int32} (hm : pr_Mo T m) (hI : mI σ) (hf : ¬ vp_in p1 (mrn σ)) : pr_M g l 11 0 0 mX8_pathLink [.ref m, .int p1, .int p2] T (rg_put I m 16 σ) L (pr_R (some (.int 0)) T (rg_put I m 16 (pr_up σ 0 6 (1 : Int32))) L) pr_no := by
  refine pr_ofG (by decide) rfl hl (Nat.le_of_ble_eq_true rfl) (fun X hA hX hXn hXt => ?_)
  subst hX
  show pr_G g X mX8_pathLink.2.2.1 _ 0 0 0 [.ref m, .int p1, .int p2] [] T (rg_put I m 16 σ) L
  have hn5 := mI_n5 hI
  have hr4 := mI_nr4 hI
  have hl24 := mI_nl24 hI
  have hn12 := mI_nn12 hI
  refine pr_aload_n hA dX8_pathLink_0 rfl ?_
  refine pr_iload_n hA dX8_pathLink_1 rfl ?_
  have hv2 : mI σ := hI
  refine pr_callVi hA [.int p1] (c_nq_bad (m := m) (σ := σ) (pr_hl hA) hm hv2 hf) v_X8_346 (mo_k0 hm) (by decide) rfl rfl rfl (by decide) (Nat.zero_le _) (Nat.zero_le _) rfl (Nat.le_of_ble_eq_true rfl) dX8_pathLink_2 ?_
  refine pr_if_eq hA 10 dX8_pathLink_5 (by decide) (fun c_5 => ?_) (fun c_5 => ?_)
  · exact absurd c_5 (by decide)
  · refine pr_iconst hA (0) dX8_pathLink_8 (by decide) ?_
    exact pr_ireturn hA rfl rfl (Nat.zero_le _) (Nat.zero_le _) dX8_pathLink_9 ⟨rfl, rfl, rfl, rfl⟩

set_option maxRecDepth 100000 in
set_option maxHeartbeats 400000 in
theorem r_placeOf_0 {g : pr_C} {l : Launch} (hl : l.stackTraces = false) {T : pr_T} {I : pr_I} {L : pr_L} {m : Nat} {σ : pr_I} {p1 : Int32} (hm : pr_Mo T m) (hI : mI σ) (hf : ¬ vp_in p1 (mrn σ)) : pr_M g l 11 0 0 mX8_placeOf [.ref m, .int p1] T (rg_put I m 16 σ) L (pr_R (some (.int 0)) T (rg_put I m 16 (pr_up σ 0 6 (1 : Int32))) L) pr_no := by
  refine pr_ofG (by decide) rfl hl (Nat.le_of_ble_eq_true rfl) (fun X hA hX hXn hXt => ?_)
  subst hX
  show pr_G g X mX8_placeOf.2.2.1 _ 0 0 0 [.ref m, .int p1] [] T (rg_put I m 16 σ) L
  have hn5 := mI_n5 hI
  have hr4 := mI_nr4 hI
  have hl24 := mI_nl24 hI
  have hn12 := mI_nn12 hI
  refine pr_aload_n hA dX8_placeOf_0 rfl ?_
  refine pr_iload_n hA dX8_placeOf_1 rfl ?_
  have hv2 : mI σ := hI
  refine pr_callVi hA [.int p1] (c_nq_bad (m := m) (σ := σ) (pr_hl hA) hm hv2 hf) v_X8_346 (mo_k0 hm) (by decide) rfl rfl rfl (by decide) (Nat.zero_le _) (Nat.zero_le _) rfl (Nat.le_of_ble_eq_true rfl) dX8_placeOf_2 ?_
  refine pr_if_eq hA 10 dX8_placeOf_5 (by decide) (fun c_5 => ?_) (fun c_5 => ?_)
  · exact absurd c_5 (by decide)
  · refine pr_iconst hA (0) dX8_placeOf_8 (by decide) ?_
    exact pr_ireturn hA rfl rfl (Nat.zero_le _) (Nat.zero_le _) dX8_placeOf_9 ⟨rfl, rfl, rfl, rfl⟩

set_option maxRecDepth 100000 in
set_option maxHeartbeats 400000 in
theorem r_reachable_0 {g : pr_C} {l : Launch} (hl : l.stackTraces = false) {T : pr_T} {I : pr_I} {L : pr_L} {m : Nat} {σ : pr_I} {p1 : Int32} {p2 : Int32} (hm : pr_Mo T m) (hI : mI σ) (hf : ¬ vp_in p1 (mnn σ)) : pr_M g l 11 0 0 mX8_reachable [.ref m, .int p1, .int p2] T (rg_put I m 16 σ) L (pr_R (some (.int 0)) T (rg_put I m 16 (pr_up σ 0 6 (1 : Int32))) L) pr_no := by
  refine pr_ofG (by decide) rfl hl (Nat.le_of_ble_eq_true rfl) (fun X hA hX hXn hXt => ?_)
  subst hX
  show pr_G g X mX8_reachable.2.2.1 _ 0 0 0 [.ref m, .int p1, .int p2, .null, .null, .null, .null] [] T (rg_put I m 16 σ) L
  have hn5 := mI_n5 hI
  have hr4 := mI_nr4 hI
  have hl24 := mI_nl24 hI
  have hn12 := mI_nn12 hI
  refine pr_aload_n hA dX8_reachable_0 rfl ?_
  refine pr_iconst hA (0) dX8_reachable_1 (by decide) ?_
  refine pr_putE (I' := (rg_put I m 16 (pr_up σ 0 6 (0 : Int32)))) hA f_X8_60 rfl (mo_k0 hm) (rg_up0 (by decide)) dX8_reachable_2 ?_
  refine pr_aload_n hA dX8_reachable_5 rfl ?_
  refine pr_aload_n hA dX8_reachable_6 rfl ?_
  refine pr_iload_n hA dX8_reachable_7 rfl ?_
  have hv8 : mI (pr_up σ 0 6 (0 : Int32)) := (mI.upn hI rfl)
  have hq8 : mnn (pr_up σ 0 6 (0 : Int32)) = mnn σ := rfl
  refine pr_callVi hA [.int p1] (c_nd_bad (m := m) (σ := (pr_up σ 0 6 (0 : Int32))) (pr_hl hA) hm hv8 hf) v_X8_312 (mo_k0 hm) (by decide) rfl rfl rfl (by decide) (Nat.zero_le _) (Nat.zero_le _) rfl (Nat.le_of_ble_eq_true rfl) dX8_reachable_8 ?_
  refine pr_if_ne hA 18 dX8_reachable_11 (by decide) (fun c_11 => ?_) (fun c_11 => ?_)
  · exact (c_11 (by decide)).elim
  · refine pr_iconst hA (1) dX8_reachable_14 (by decide) ?_
    refine pr_goto hA 19 dX8_reachable_15 (by decide) ?_
    refine pr_iconst hA (1) dX8_reachable_19 (by decide) ?_
    refine pr_callVi hA [.int (1 : Int32), .int (1 : Int32)] (c_tiE (m := m) (σ := (pr_up σ 0 6 (0 : Int32))) (pr_hl hA) hm (ti_1 pr_upe (by decide))) v_X8_301 (mo_k0 hm) (by decide) rfl rfl rfl (by decide) (Nat.zero_le _) (Nat.zero_le _) rfl (Nat.le_of_ble_eq_true rfl) dX8_reachable_20 ?_
    refine pr_if_ne hA 51 dX8_reachable_23 (by decide) (fun c_23 => ?_) (fun c_23 => ?_)
    · refine pr_iconst hA (0) dX8_reachable_51 (by decide) ?_
      exact pr_ireturn hA rfl rfl (Nat.zero_le _) (Nat.zero_le _) dX8_reachable_52 ⟨rfl, rfl, (by simp only [pr_up_two]), rfl⟩
    · exact absurd c_23 (by decide)

set_option maxRecDepth 100000 in
set_option maxHeartbeats 400000 in
theorem r_reachable_1 {g : pr_C} {l : Launch} (hl : l.stackTraces = false) {T : pr_T} {I : pr_I} {L : pr_L} {m : Nat} {σ : pr_I} {k1 : Nat} {p2 : Int32} (hm : pr_Mo T m) (hI : mI σ) (hk1 : k1 < mnn σ) (hf : p2 < 0 ∨ 1000 < p2) : pr_M g l 11 0 0 mX8_reachable [.ref m, .int (nI k1), .int p2] T (rg_put I m 16 σ) L (pr_R (some (.int 0)) T (rg_put I m 16 (pr_up σ 0 6 (2 : Int32))) L) pr_no := by
  refine pr_ofG (by decide) rfl hl (Nat.le_of_ble_eq_true rfl) (fun X hA hX hXn hXt => ?_)
  subst hX
  show pr_G g X mX8_reachable.2.2.1 _ 0 0 0 [.ref m, .int (nI k1), .int p2, .null, .null, .null, .null] [] T (rg_put I m 16 σ) L
  have hn5 := mI_n5 hI
  have hr4 := mI_nr4 hI
  have hl24 := mI_nl24 hI
  have hn12 := mI_nn12 hI
  refine pr_aload_n hA dX8_reachable_0 rfl ?_
  refine pr_iconst hA (0) dX8_reachable_1 (by decide) ?_
  refine pr_putE (I' := (rg_put I m 16 (pr_up σ 0 6 (0 : Int32)))) hA f_X8_60 rfl (mo_k0 hm) (rg_up0 (by decide)) dX8_reachable_2 ?_
  refine pr_aload_n hA dX8_reachable_5 rfl ?_
  refine pr_aload_n hA dX8_reachable_6 rfl ?_
  refine pr_iload_n hA dX8_reachable_7 rfl ?_
  have hv8 : mI (pr_up σ 0 6 (0 : Int32)) := (mI.upn hI rfl)
  have hq8 : mnn (pr_up σ 0 6 (0 : Int32)) = mnn σ := rfl
  refine pr_callVi hA [.int (nI k1)] (c_nd_ok (m := m) (σ := (pr_up σ 0 6 (0 : Int32))) (pr_hl hA) hm hv8 (by omega)) v_X8_312 (mo_k0 hm) (by decide) rfl rfl rfl (by decide) (Nat.zero_le _) (Nat.zero_le _) rfl (Nat.le_of_ble_eq_true rfl) dX8_reachable_8 ?_
  refine pr_if_ne hA 18 dX8_reachable_11 (by decide) (fun c_11 => ?_) (fun c_11 => ?_)
  · refine pr_iconst hA (0) dX8_reachable_18 (by decide) ?_
    refine pr_iconst hA (1) dX8_reachable_19 (by decide) ?_
    refine pr_callVi hA [.int (0 : Int32), .int (1 : Int32)] (c_tiE (m := m) (σ := (pr_up σ 0 6 (0 : Int32))) (pr_hl hA) hm (ti_0 pr_upe)) v_X8_301 (mo_k0 hm) (by decide) rfl rfl rfl (by decide) (Nat.zero_le _) (Nat.zero_le _) rfl (Nat.le_of_ble_eq_true rfl) dX8_reachable_20 ?_
    refine pr_if_ne hA 51 dX8_reachable_23 (by decide) (fun c_23 => ?_) (fun c_23 => ?_)
    · exact (c_23 (by decide)).elim
    · refine pr_aload_n hA dX8_reachable_26 rfl ?_
      refine pr_iload_n hA dX8_reachable_27 rfl ?_
      refine pr_i2l hA dX8_reachable_28 ?_
      refine pr_lconst hA 0 dX8_reachable_29 (by decide) ?_
      refine pr_ldc2 hA kK_X8_299 dX8_reachable_30 ?_
      refine pr_callSi hA [.long ((p2).toInt64), .long (0 : Int64), .long (1000 : Int64)] (c_inE (m := m) (σ := (pr_up σ 0 6 (0 : Int32))) (v := 0) (pr_hl hA) hm (in_z0 hf (by decide) (by decide))) s_X8_80 rfl (by decide) (Nat.zero_le _) (Nat.zero_le _) rfl (Nat.le_of_ble_eq_true rfl) dX8_reachable_33 ?_
      refine pr_if_ne hA 43 dX8_reachable_36 (by decide) (fun c_36 => ?_) (fun c_36 => ?_)
      · exact (c_36 (by decide)).elim
      · refine pr_iconst hA (1) dX8_reachable_39 (by decide) ?_
        refine pr_goto hA 44 dX8_reachable_40 (by decide) ?_
        refine pr_iconst hA (2) dX8_reachable_44 (by decide) ?_
        refine pr_callVi hA [.int (1 : Int32), .int (2 : Int32)] (c_tiE (m := m) (σ := (pr_up σ 0 6 (0 : Int32))) (pr_hl hA) hm (ti_1 pr_upe (by decide))) v_X8_301 (mo_k0 hm) (by decide) rfl rfl rfl (by decide) (Nat.zero_le _) (Nat.zero_le _) rfl (Nat.le_of_ble_eq_true rfl) dX8_reachable_45 ?_
        refine pr_if_eq hA 53 dX8_reachable_48 (by decide) (fun c_48 => ?_) (fun c_48 => ?_)
        · exact absurd c_48 (by decide)
        · refine pr_iconst hA (0) dX8_reachable_51 (by decide) ?_
          exact pr_ireturn hA rfl rfl (Nat.zero_le _) (Nat.zero_le _) dX8_reachable_52 ⟨rfl, rfl, (by simp only [pr_up_two]), rfl⟩
  · exact absurd c_11 (by decide)

set_option maxRecDepth 100000 in
set_option maxHeartbeats 400000 in
theorem r_request_0 {g : pr_C} {l : Launch} (hl : l.stackTraces = false) {T : pr_T} {I : pr_I} {L : pr_L} {m : Nat} {σ : pr_I} {p1 : Int32} {p2 : Int32} {p3 : Int32} {p4 : Int32} (hm : pr_Mo T m) (hI : mI σ) (hf : ¬ vp_in p1 (mnn σ) ∨ ¬ vp_in p2 (mnn σ)) : pr_M g l 11 0 0 mX8_request [.ref m, .int p1, .int p2, .int p3, .int p4] T (rg_put I m 16 σ) L (pr_R (some (.int 0)) T (rg_put I m 16 (pr_up σ 0 6 (1 : Int32))) L) pr_no := by
  refine pr_ofG (by decide) rfl hl (Nat.le_of_ble_eq_true rfl) (fun X hA hX hXn hXt => ?_)
  subst hX
  show pr_G g X mX8_request.2.2.1 _ 0 0 0 [.ref m, .int p1, .int p2, .int p3, .int p4] [] T (rg_put I m 16 σ) L
  have hn5 := mI_n5 hI
  have hr4 := mI_nr4 hI
  have hl24 := mI_nl24 hI
  have hn12 := mI_nn12 hI
  refine pr_aload_n hA dX8_request_0 rfl ?_
  refine pr_iload_n hA dX8_request_1 rfl ?_
  refine pr_iload_n hA dX8_request_2 rfl ?_
  have hv3 : mI σ := hI
  refine pr_callVi hA [.int p1, .int p2] (c_nn_bad (m := m) (σ := σ) (pr_hl hA) hm hv3 hf) v_X8_337 (mo_k0 hm) (by decide) rfl rfl rfl (by decide) (Nat.zero_le _) (Nat.zero_le _) rfl (Nat.le_of_ble_eq_true rfl) dX8_request_3 ?_
  refine pr_if_ne hA 47 dX8_request_6 (by decide) (fun c_6 => ?_) (fun c_6 => ?_)
  · refine pr_iconst hA (0) dX8_request_47 (by decide) ?_
    exact pr_ireturn hA rfl rfl (Nat.zero_le _) (Nat.zero_le _) dX8_request_48 ⟨rfl, rfl, rfl, rfl⟩
  · exact absurd c_6 (by decide)

set_option maxRecDepth 100000 in
set_option maxHeartbeats 400000 in
theorem r_request_0e {g : pr_C} {l : Launch} (hl : l.stackTraces = false) {T : pr_T} {I : pr_I} {L : pr_L} {m : Nat} {σ : pr_I} {p1 : Int32} {p2 : Int32} {p3 : Int32} {p4 : Int32} (hm : pr_Mo T m) (hI : mI σ) (hx : vp_in p1 (mnn σ)) (he : p1 = p2) : pr_M g l 11 0 0 mX8_request [.ref m, .int p1, .int p2, .int p3, .int p4] T (rg_put I m 16 σ) L (pr_R (some (.int 0)) T (rg_put I m 16 (pr_up σ 0 6 (2 : Int32))) L) pr_no := by
  refine pr_ofG (by decide) rfl hl (Nat.le_of_ble_eq_true rfl) (fun X hA hX hXn hXt => ?_)
  subst hX
  show pr_G g X mX8_request.2.2.1 _ 0 0 0 [.ref m, .int p1, .int p2, .int p3, .int p4] [] T (rg_put I m 16 σ) L
  have hn5 := mI_n5 hI
  have hr4 := mI_nr4 hI
  have hl24 := mI_nl24 hI
  have hn12 := mI_nn12 hI
  refine pr_aload_n hA dX8_request_0 rfl ?_
  refine pr_iload_n hA dX8_request_1 rfl ?_
  refine pr_iload_n hA dX8_request_2 rfl ?_
  have hv3 : mI σ := hI
  refine pr_callVi hA [.int p1, .int p2] (c_nn_eq (m := m) (σ := σ) (pr_hl hA) hm hv3 hx he) v_X8_337 (mo_k0 hm) (by decide) rfl rfl rfl (by decide) (Nat.zero_le _) (Nat.zero_le _) rfl (Nat.le_of_ble_eq_true rfl) dX8_request_3 ?_
  refine pr_if_ne hA 47 dX8_request_6 (by decide) (fun c_6 => ?_) (fun c_6 => ?_)
  · refine pr_iconst hA (0) dX8_request_47 (by decide) ?_
    exact pr_ireturn hA rfl rfl (Nat.zero_le _) (Nat.zero_le _) dX8_request_48 ⟨rfl, rfl, rfl, rfl⟩
  · exact absurd c_6 (by decide)

set_option maxRecDepth 100000 in
set_option maxHeartbeats 400000 in
theorem r_request_1 {g : pr_C} {l : Launch} (hl : l.stackTraces = false) {T : pr_T} {I : pr_I} {L : pr_L} {m : Nat} {σ : pr_I} {k1 : Nat} {k2 : Nat} {p3 : Int32} {p4 : Int32} (hm : pr_Mo T m) (hI : mI σ) (hk1 : k1 < mnn σ) (hk2 : k2 < mnn σ) (hst : k1 ≠ k2) (hf : p3 < 1 ∨ 1000 < p3) : pr_M g l 11 0 0 mX8_request [.ref m, .int (nI k1), .int (nI k2), .int p3, .int p4] T (rg_put I m 16 σ) L (pr_R (some (.int 0)) T (rg_put I m 16 (pr_up σ 0 6 (2 : Int32))) L) pr_no := by
  refine pr_ofG (by decide) rfl hl (Nat.le_of_ble_eq_true rfl) (fun X hA hX hXn hXt => ?_)
  subst hX
  show pr_G g X mX8_request.2.2.1 _ 0 0 0 [.ref m, .int (nI k1), .int (nI k2), .int p3, .int p4] [] T (rg_put I m 16 σ) L
  have hn5 := mI_n5 hI
  have hr4 := mI_nr4 hI
  have hl24 := mI_nl24 hI
  have hn12 := mI_nn12 hI
  refine pr_aload_n hA dX8_request_0 rfl ?_
  refine pr_iload_n hA dX8_request_1 rfl ?_
  refine pr_iload_n hA dX8_request_2 rfl ?_
  have hv3 : mI σ := hI
  refine pr_callVi hA [.int (nI k1), .int (nI k2)] (c_nn_ok (m := m) (σ := σ) (pr_hl hA) hm hv3 (by omega) (by omega) (by omega)) v_X8_337 (mo_k0 hm) (by decide) rfl rfl rfl (by decide) (Nat.zero_le _) (Nat.zero_le _) rfl (Nat.le_of_ble_eq_true rfl) dX8_request_3 ?_
  refine pr_if_ne hA 47 dX8_request_6 (by decide) (fun c_6 => ?_) (fun c_6 => ?_)
  · exact (c_6 (by decide)).elim
  · refine pr_aload_n hA dX8_request_9 rfl ?_
    refine pr_iload_n hA dX8_request_10 rfl ?_
    refine pr_i2l hA dX8_request_11 ?_
    refine pr_lconst hA 1 dX8_request_12 (by decide) ?_
    refine pr_ldc2 hA kK_X8_299 dX8_request_13 ?_
    refine pr_callSi hA [.long ((p3).toInt64), .long (1 : Int64), .long (1000 : Int64)] (c_inE (m := m) (σ := (pr_up σ 0 6 (0 : Int32))) (v := 0) (pr_hl hA) hm (in_z0 hf (by decide) (by decide))) s_X8_80 rfl (by decide) (Nat.zero_le _) (Nat.zero_le _) rfl (Nat.le_of_ble_eq_true rfl) dX8_request_16 ?_
    refine pr_if_eq hA 35 dX8_request_19 (by decide) (fun c_19 => ?_) (fun c_19 => ?_)
    · refine pr_iconst hA (1) dX8_request_35 (by decide) ?_
      refine pr_goto hA 40 dX8_request_36 (by decide) ?_
      refine pr_iconst hA (2) dX8_request_40 (by decide) ?_
      refine pr_callVi hA [.int (1 : Int32), .int (2 : Int32)] (c_tiE (m := m) (σ := (pr_up σ 0 6 (0 : Int32))) (pr_hl hA) hm (ti_1 pr_upe (by decide))) v_X8_301 (mo_k0 hm) (by decide) rfl rfl rfl (by decide) (Nat.zero_le _) (Nat.zero_le _) rfl (Nat.le_of_ble_eq_true rfl) dX8_request_41 ?_
      refine pr_if_eq hA 49 dX8_request_44 (by decide) (fun c_44 => ?_) (fun c_44 => ?_)
      · exact absurd c_44 (by decide)
      · refine pr_iconst hA (0) dX8_request_47 (by decide) ?_
        exact pr_ireturn hA rfl rfl (Nat.zero_le _) (Nat.zero_le _) dX8_request_48 ⟨rfl, rfl, (by simp only [pr_up_two]), rfl⟩
    · exact (c_19 (by decide)).elim

set_option maxRecDepth 100000 in
set_option maxHeartbeats 400000 in
theorem r_request_2 {g : pr_C} {l : Launch} (hl : l.stackTraces = false) {T : pr_T} {I : pr_I} {L : pr_L} {m : Nat} {σ : pr_I} {k1 : Nat} {k2 : Nat} {p3 : Int32} {p4 : Int32} (hm : pr_Mo T m) (hI : mI σ) (hk1 : k1 < mnn σ) (hk2 : k2 < mnn σ) (hst : k1 ≠ k2) (h3a : 1 ≤ p3) (h3b : p3 ≤ 1000) (hf : p4 < 1 ∨ 10000 < p4) : pr_M g l 11 0 0 mX8_request [.ref m, .int (nI k1), .int (nI k2), .int p3, .int p4] T (rg_put I m 16 σ) L (pr_R (some (.int 0)) T (rg_put I m 16 (pr_up σ 0 6 (2 : Int32))) L) pr_no := by
  refine pr_ofG (by decide) rfl hl (Nat.le_of_ble_eq_true rfl) (fun X hA hX hXn hXt => ?_)
  subst hX
  show pr_G g X mX8_request.2.2.1 _ 0 0 0 [.ref m, .int (nI k1), .int (nI k2), .int p3, .int p4] [] T (rg_put I m 16 σ) L
  have hn5 := mI_n5 hI
  have hr4 := mI_nr4 hI
  have hl24 := mI_nl24 hI
  have hn12 := mI_nn12 hI
  refine pr_aload_n hA dX8_request_0 rfl ?_
  refine pr_iload_n hA dX8_request_1 rfl ?_
  refine pr_iload_n hA dX8_request_2 rfl ?_
  have hv3 : mI σ := hI
  refine pr_callVi hA [.int (nI k1), .int (nI k2)] (c_nn_ok (m := m) (σ := σ) (pr_hl hA) hm hv3 (by omega) (by omega) (by omega)) v_X8_337 (mo_k0 hm) (by decide) rfl rfl rfl (by decide) (Nat.zero_le _) (Nat.zero_le _) rfl (Nat.le_of_ble_eq_true rfl) dX8_request_3 ?_
  refine pr_if_ne hA 47 dX8_request_6 (by decide) (fun c_6 => ?_) (fun c_6 => ?_)
  · exact (c_6 (by decide)).elim
  · refine pr_aload_n hA dX8_request_9 rfl ?_
    refine pr_iload_n hA dX8_request_10 rfl ?_
    refine pr_i2l hA dX8_request_11 ?_
    refine pr_lconst hA 1 dX8_request_12 (by decide) ?_
    refine pr_ldc2 hA kK_X8_299 dX8_request_13 ?_
    refine pr_callSi hA [.long ((p3).toInt64), .long (1 : Int64), .long (1000 : Int64)] (c_inE (m := m) (σ := (pr_up σ 0 6 (0 : Int32))) (v := 1) (pr_hl hA) hm (in_z1 h3a h3b (by decide) (by decide))) s_X8_80 rfl (by decide) (Nat.zero_le _) (Nat.zero_le _) rfl (Nat.le_of_ble_eq_true rfl) dX8_request_16 ?_
    refine pr_if_eq hA 35 dX8_request_19 (by decide) (fun c_19 => ?_) (fun c_19 => ?_)
    · exact absurd c_19 (by decide)
    · refine pr_iload hA dX8_request_22 rfl ?_
      refine pr_i2l hA dX8_request_24 ?_
      refine pr_lconst hA 1 dX8_request_25 (by decide) ?_
      refine pr_ldc2 hA kK_X8_340 dX8_request_26 ?_
      refine pr_callSi hA [.long ((p4).toInt64), .long (1 : Int64), .long (10000 : Int64)] (c_inE (m := m) (σ := (pr_up σ 0 6 (0 : Int32))) (v := 0) (pr_hl hA) hm (in_z0 hf (by decide) (by decide))) s_X8_80 rfl (by decide) (Nat.zero_le _) (Nat.zero_le _) rfl (Nat.le_of_ble_eq_true rfl) dX8_request_29 ?_
      refine pr_if_ne hA 39 dX8_request_32 (by decide) (fun c_32 => ?_) (fun c_32 => ?_)
      · exact (c_32 (by decide)).elim
      · refine pr_iconst hA (1) dX8_request_35 (by decide) ?_
        refine pr_goto hA 40 dX8_request_36 (by decide) ?_
        refine pr_iconst hA (2) dX8_request_40 (by decide) ?_
        refine pr_callVi hA [.int (1 : Int32), .int (2 : Int32)] (c_tiE (m := m) (σ := (pr_up σ 0 6 (0 : Int32))) (pr_hl hA) hm (ti_1 pr_upe (by decide))) v_X8_301 (mo_k0 hm) (by decide) rfl rfl rfl (by decide) (Nat.zero_le _) (Nat.zero_le _) rfl (Nat.le_of_ble_eq_true rfl) dX8_request_41 ?_
        refine pr_if_eq hA 49 dX8_request_44 (by decide) (fun c_44 => ?_) (fun c_44 => ?_)
        · exact absurd c_44 (by decide)
        · refine pr_iconst hA (0) dX8_request_47 (by decide) ?_
          exact pr_ireturn hA rfl rfl (Nat.zero_le _) (Nat.zero_le _) dX8_request_48 ⟨rfl, rfl, (by simp only [pr_up_two]), rfl⟩

set_option maxRecDepth 100000 in
set_option maxHeartbeats 400000 in
theorem r_requestInState_0 {g : pr_C} {l : Launch} (hl : l.stackTraces = false) {T : pr_T} {I : pr_I} {L : pr_L} {m : Nat} {σ : pr_I} {p1 : Int32} {p2 : Int32} (hm : pr_Mo T m) (hI : mI σ) (hf : p1 < 0 ∨ 7 < p1) : pr_M g l 11 0 0 mX8_requestInState [.ref m, .int p1, .int p2] T (rg_put I m 16 σ) L (pr_R (some (.int 0)) T (rg_put I m 16 (pr_up σ 0 6 (1 : Int32))) L) pr_no := by
  refine pr_ofG (by decide) rfl hl (Nat.le_of_ble_eq_true rfl) (fun X hA hX hXn hXt => ?_)
  subst hX
  show pr_G g X mX8_requestInState.2.2.1 _ 0 0 0 [.ref m, .int p1, .int p2, .null, .null] [] T (rg_put I m 16 σ) L
  have hn5 := mI_n5 hI
  have hr4 := mI_nr4 hI
  have hl24 := mI_nl24 hI
  have hn12 := mI_nn12 hI
  refine pr_aload_n hA dX8_requestInState_0 rfl ?_
  refine pr_iconst hA (0) dX8_requestInState_1 (by decide) ?_
  refine pr_putE (I' := (rg_put I m 16 (pr_up σ 0 6 (0 : Int32)))) hA f_X8_60 rfl (mo_k0 hm) (rg_up0 (by decide)) dX8_requestInState_2 ?_
  refine pr_aload_n hA dX8_requestInState_5 rfl ?_
  refine pr_iload_n hA dX8_requestInState_6 rfl ?_
  refine pr_i2l hA dX8_requestInState_7 ?_
  refine pr_lconst hA 0 dX8_requestInState_8 (by decide) ?_
  refine pr_ldc2 hA kK_X8_351 dX8_requestInState_9 ?_
  refine pr_callSi hA [.long ((p1).toInt64), .long (0 : Int64), .long (7 : Int64)] (c_inE (m := m) (σ := (pr_up σ 0 6 (0 : Int32))) (v := 0) (pr_hl hA) hm (in_z0 hf (by decide) (by decide))) s_X8_80 rfl (by decide) (Nat.zero_le _) (Nat.zero_le _) rfl (Nat.le_of_ble_eq_true rfl) dX8_requestInState_12 ?_
  refine pr_if_ne hA 22 dX8_requestInState_15 (by decide) (fun c_15 => ?_) (fun c_15 => ?_)
  · exact (c_15 (by decide)).elim
  · refine pr_iconst hA (1) dX8_requestInState_18 (by decide) ?_
    refine pr_goto hA 23 dX8_requestInState_19 (by decide) ?_
    refine pr_iconst hA (1) dX8_requestInState_23 (by decide) ?_
    refine pr_callVi hA [.int (1 : Int32), .int (1 : Int32)] (c_tiE (m := m) (σ := (pr_up σ 0 6 (0 : Int32))) (pr_hl hA) hm (ti_1 pr_upe (by decide))) v_X8_301 (mo_k0 hm) (by decide) rfl rfl rfl (by decide) (Nat.zero_le _) (Nat.zero_le _) rfl (Nat.le_of_ble_eq_true rfl) dX8_requestInState_24 ?_
    refine pr_if_eq hA 32 dX8_requestInState_27 (by decide) (fun c_27 => ?_) (fun c_27 => ?_)
    · exact absurd c_27 (by decide)
    · refine pr_iconst hA (0) dX8_requestInState_30 (by decide) ?_
      exact pr_ireturn hA rfl rfl (Nat.zero_le _) (Nat.zero_le _) dX8_requestInState_31 ⟨rfl, rfl, (by simp only [pr_up_two]), rfl⟩

set_option maxRecDepth 100000 in
set_option maxHeartbeats 400000 in
theorem r_requestValue_0 {g : pr_C} {l : Launch} (hl : l.stackTraces = false) {T : pr_T} {I : pr_I} {L : pr_L} {m : Nat} {σ : pr_I} {p1 : Int32} {p2 : Int32} (hm : pr_Mo T m) (hI : mI σ) (hf : ¬ vp_in p1 (mrn σ)) : pr_M g l 11 0 0 mX8_requestValue [.ref m, .int p1, .int p2] T (rg_put I m 16 σ) L (pr_R (some (.int 0)) T (rg_put I m 16 (pr_up σ 0 6 (1 : Int32))) L) pr_no := by
  refine pr_ofG (by decide) rfl hl (Nat.le_of_ble_eq_true rfl) (fun X hA hX hXn hXt => ?_)
  subst hX
  show pr_G g X mX8_requestValue.2.2.1 _ 0 0 0 [.ref m, .int p1, .int p2] [] T (rg_put I m 16 σ) L
  have hn5 := mI_n5 hI
  have hr4 := mI_nr4 hI
  have hl24 := mI_nl24 hI
  have hn12 := mI_nn12 hI
  refine pr_aload_n hA dX8_requestValue_0 rfl ?_
  refine pr_iload_n hA dX8_requestValue_1 rfl ?_
  have hv2 : mI σ := hI
  refine pr_callVi hA [.int p1] (c_nq_bad (m := m) (σ := σ) (pr_hl hA) hm hv2 hf) v_X8_346 (mo_k0 hm) (by decide) rfl rfl rfl (by decide) (Nat.zero_le _) (Nat.zero_le _) rfl (Nat.le_of_ble_eq_true rfl) dX8_requestValue_2 ?_
  refine pr_if_ne hA 33 dX8_requestValue_5 (by decide) (fun c_5 => ?_) (fun c_5 => ?_)
  · refine pr_iconst hA (0) dX8_requestValue_33 (by decide) ?_
    refine pr_goto hA 43 dX8_requestValue_34 (by decide) ?_
    exact pr_ireturn hA rfl rfl (Nat.zero_le _) (Nat.zero_le _) dX8_requestValue_43 ⟨rfl, rfl, rfl, rfl⟩
  · exact absurd c_5 (by decide)

set_option maxRecDepth 100000 in
set_option maxHeartbeats 400000 in
theorem r_requestValue_1 {g : pr_C} {l : Launch} (hl : l.stackTraces = false) {T : pr_T} {I : pr_I} {L : pr_L} {m : Nat} {σ : pr_I} {k1 : Nat} {p2 : Int32} (hm : pr_Mo T m) (hI : mI σ) (hk1 : k1 < mrn σ) (hf : p2 < 0 ∨ 12 < p2) : pr_M g l 11 0 0 mX8_requestValue [.ref m, .int (nI k1), .int p2] T (rg_put I m 16 σ) L (pr_R (some (.int 0)) T (rg_put I m 16 (pr_up σ 0 6 (2 : Int32))) L) pr_no := by
  refine pr_ofG (by decide) rfl hl (Nat.le_of_ble_eq_true rfl) (fun X hA hX hXn hXt => ?_)
  subst hX
  show pr_G g X mX8_requestValue.2.2.1 _ 0 0 0 [.ref m, .int (nI k1), .int p2] [] T (rg_put I m 16 σ) L
  have hn5 := mI_n5 hI
  have hr4 := mI_nr4 hI
  have hl24 := mI_nl24 hI
  have hn12 := mI_nn12 hI
  refine pr_aload_n hA dX8_requestValue_0 rfl ?_
  refine pr_iload_n hA dX8_requestValue_1 rfl ?_
  have hv2 : mI σ := hI
  refine pr_callVi hA [.int (nI k1)] (c_nq_ok (m := m) (σ := σ) (pr_hl hA) hm hv2 (by omega)) v_X8_346 (mo_k0 hm) (by decide) rfl rfl rfl (by decide) (Nat.zero_le _) (Nat.zero_le _) rfl (Nat.le_of_ble_eq_true rfl) dX8_requestValue_2 ?_
  refine pr_if_ne hA 33 dX8_requestValue_5 (by decide) (fun c_5 => ?_) (fun c_5 => ?_)
  · exact (c_5 (by decide)).elim
  · refine pr_aload_n hA dX8_requestValue_8 rfl ?_
    refine pr_iload_n hA dX8_requestValue_9 rfl ?_
    refine pr_i2l hA dX8_requestValue_10 ?_
    refine pr_lconst hA 0 dX8_requestValue_11 (by decide) ?_
    refine pr_ldc2 hA kK_X8_349 dX8_requestValue_12 ?_
    refine pr_callSi hA [.long ((p2).toInt64), .long (0 : Int64), .long (12 : Int64)] (c_inE (m := m) (σ := (pr_up σ 0 6 (0 : Int32))) (v := 0) (pr_hl hA) hm (in_z0 hf (by decide) (by decide))) s_X8_80 rfl (by decide) (Nat.zero_le _) (Nat.zero_le _) rfl (Nat.le_of_ble_eq_true rfl) dX8_requestValue_15 ?_
    refine pr_if_ne hA 25 dX8_requestValue_18 (by decide) (fun c_18 => ?_) (fun c_18 => ?_)
    · exact (c_18 (by decide)).elim
    · refine pr_iconst hA (1) dX8_requestValue_21 (by decide) ?_
      refine pr_goto hA 26 dX8_requestValue_22 (by decide) ?_
      refine pr_iconst hA (2) dX8_requestValue_26 (by decide) ?_
      refine pr_callVi hA [.int (1 : Int32), .int (2 : Int32)] (c_tiE (m := m) (σ := (pr_up σ 0 6 (0 : Int32))) (pr_hl hA) hm (ti_1 pr_upe (by decide))) v_X8_301 (mo_k0 hm) (by decide) rfl rfl rfl (by decide) (Nat.zero_le _) (Nat.zero_le _) rfl (Nat.le_of_ble_eq_true rfl) dX8_requestValue_27 ?_
      refine pr_if_eq hA 37 dX8_requestValue_30 (by decide) (fun c_30 => ?_) (fun c_30 => ?_)
      · exact absurd c_30 (by decide)
      · refine pr_iconst hA (0) dX8_requestValue_33 (by decide) ?_
        refine pr_goto hA 43 dX8_requestValue_34 (by decide) ?_
        exact pr_ireturn hA rfl rfl (Nat.zero_le _) (Nat.zero_le _) dX8_requestValue_43 ⟨rfl, rfl, (by simp only [pr_up_two]), rfl⟩

set_option maxRecDepth 100000 in
set_option maxHeartbeats 400000 in
theorem r_restoreSnapshot_0 {g : pr_C} {l : Launch} (hl : l.stackTraces = false) {T : pr_T} {I : pr_I} {L : pr_L} {m : Nat} {σ : pr_I} {p1 : Int32} (hm : pr_Mo T m) (hI : mI σ) (hf : p1 < 0 ∨ 1 < p1) : pr_M g l 11 0 0 mX8_restoreSnapshot [.ref m, .int p1] T (rg_put I m 16 σ) L (pr_R (some (.int 0)) T (rg_put I m 16 (pr_up σ 0 6 (1 : Int32))) L) pr_no := by
  refine pr_ofG (by decide) rfl hl (Nat.le_of_ble_eq_true rfl) (fun X hA hX hXn hXt => ?_)
  subst hX
  show pr_G g X mX8_restoreSnapshot.2.2.1 _ 0 0 0 [.ref m, .int p1] [] T (rg_put I m 16 σ) L
  have hn5 := mI_n5 hI
  have hr4 := mI_nr4 hI
  have hl24 := mI_nl24 hI
  have hn12 := mI_nn12 hI
  refine pr_aload_n hA dX8_restoreSnapshot_0 rfl ?_
  refine pr_iload_n hA dX8_restoreSnapshot_1 rfl ?_
  have hv2 : mI σ := hI
  refine pr_callVi hA [.int p1] (c_ns_bad (m := m) (σ := σ) (pr_hl hA) hm hv2 hf) v_X8_401 (mo_k0 hm) (by decide) rfl rfl rfl (by decide) (Nat.zero_le _) (Nat.zero_le _) rfl (Nat.le_of_ble_eq_true rfl) dX8_restoreSnapshot_2 ?_
  refine pr_if_eq hA 10 dX8_restoreSnapshot_5 (by decide) (fun c_5 => ?_) (fun c_5 => ?_)
  · exact absurd c_5 (by decide)
  · refine pr_iconst hA (0) dX8_restoreSnapshot_8 (by decide) ?_
    exact pr_ireturn hA rfl rfl (Nat.zero_le _) (Nat.zero_le _) dX8_restoreSnapshot_9 ⟨rfl, rfl, rfl, rfl⟩

set_option maxRecDepth 100000 in
set_option maxHeartbeats 400000 in
theorem r_revenueAfter_0 {g : pr_C} {l : Launch} (hl : l.stackTraces = false) {T : pr_T} {I : pr_I} {L : pr_L} {m : Nat} {σ : pr_I} {p1 : Int32} (hm : pr_Mo T m) (hI : mI σ) (hf : p1 < 0 ∨ 2000 < p1) : pr_M g l 11 0 0 mX8_revenueAfter [.ref m, .int p1] T (rg_put I m 16 σ) L (pr_R (some (.long 0)) T (rg_put I m 16 (pr_up σ 0 6 (1 : Int32))) L) pr_no := by
  refine pr_ofG (by decide) rfl hl (Nat.le_of_ble_eq_true rfl) (fun X hA hX hXn hXt => ?_)
  subst hX
  show pr_G g X mX8_revenueAfter.2.2.1 _ 0 0 0 [.ref m, .int p1, .null, .null] [] T (rg_put I m 16 σ) L
  have hn5 := mI_n5 hI
  have hr4 := mI_nr4 hI
  have hl24 := mI_nl24 hI
  have hn12 := mI_nn12 hI
  refine pr_aload_n hA dX8_revenueAfter_0 rfl ?_
  refine pr_iconst hA (0) dX8_revenueAfter_1 (by decide) ?_
  refine pr_putE (I' := (rg_put I m 16 (pr_up σ 0 6 (0 : Int32)))) hA f_X8_60 rfl (mo_k0 hm) (rg_up0 (by decide)) dX8_revenueAfter_2 ?_
  refine pr_aload_n hA dX8_revenueAfter_5 rfl ?_
  refine pr_iload_n hA dX8_revenueAfter_6 rfl ?_
  refine pr_iconst hA (1) dX8_revenueAfter_7 (by decide) ?_
  have hv8 : mI (pr_up σ 0 6 (0 : Int32)) := (mI.upn hI rfl)
  refine pr_callVi hA [.int p1, .int (1 : Int32)] (c_nt_bad (m := m) (σ := (pr_up σ 0 6 (0 : Int32))) (pr_hl hA) hm pr_upe hv8 (by decide) hf) v_X8_398 (mo_k0 hm) (by decide) rfl rfl rfl (by decide) (Nat.zero_le _) (Nat.zero_le _) rfl (Nat.le_of_ble_eq_true rfl) dX8_revenueAfter_8 ?_
  refine pr_if_eq hA 16 dX8_revenueAfter_11 (by decide) (fun c_11 => ?_) (fun c_11 => ?_)
  · exact absurd c_11 (by decide)
  · refine pr_lconst hA 0 dX8_revenueAfter_14 (by decide) ?_
    exact pr_lreturn hA rfl (Nat.zero_le _) (Nat.zero_le _) dX8_revenueAfter_15 ⟨rfl, rfl, (by simp only [pr_up_two]), rfl⟩

set_option maxRecDepth 100000 in
set_option maxHeartbeats 400000 in
theorem r_roundTrip_0 {g : pr_C} {l : Launch} (hl : l.stackTraces = false) {T : pr_T} {I : pr_I} {L : pr_L} {m : Nat} {σ : pr_I} {p1 : Int32} {p2 : Int32} {p3 : Int32} (hm : pr_Mo T m) (hI : mI σ) (hf : ¬ vp_in p1 (mnn σ) ∨ ¬ vp_in p2 (mnn σ)) : pr_M g l 11 0 0 mX8_roundTrip [.ref m, .int p1, .int p2, .int p3] T (rg_put I m 16 σ) L (pr_R (some (.int 0)) T (rg_put I m 16 (pr_up σ 0 6 (1 : Int32))) L) pr_no := by
  refine pr_ofG (by decide) rfl hl (Nat.le_of_ble_eq_true rfl) (fun X hA hX hXn hXt => ?_)
  subst hX
  show pr_G g X mX8_roundTrip.2.2.1 _ 0 0 0 [.ref m, .int p1, .int p2, .int p3] [] T (rg_put I m 16 σ) L
  have hn5 := mI_n5 hI
  have hr4 := mI_nr4 hI
  have hl24 := mI_nl24 hI
  have hn12 := mI_nn12 hI
  refine pr_aload_n hA dX8_roundTrip_0 rfl ?_
  refine pr_iload_n hA dX8_roundTrip_1 rfl ?_
  refine pr_iload_n hA dX8_roundTrip_2 rfl ?_
  refine pr_iload_n hA dX8_roundTrip_3 rfl ?_
  have hv4 : mI σ := hI
  refine pr_callVi hA [.int p1, .int p2, .int p3] (c_ne_bad (m := m) (σ := σ) (pr_hl hA) hm hv4 hf) v_X8_362 (mo_k0 hm) (by decide) rfl rfl rfl (by decide) (Nat.zero_le _) (Nat.zero_le _) rfl (Nat.le_of_ble_eq_true rfl) dX8_roundTrip_4 ?_
  refine pr_if_eq hA 12 dX8_roundTrip_7 (by decide) (fun c_7 => ?_) (fun c_7 => ?_)
  · exact absurd c_7 (by decide)
  · refine pr_iconst hA (0) dX8_roundTrip_10 (by decide) ?_
    exact pr_ireturn hA rfl rfl (Nat.zero_le _) (Nat.zero_le _) dX8_roundTrip_11 ⟨rfl, rfl, rfl, rfl⟩

set_option maxRecDepth 100000 in
set_option maxHeartbeats 400000 in
theorem r_roundTrip_0e {g : pr_C} {l : Launch} (hl : l.stackTraces = false) {T : pr_T} {I : pr_I} {L : pr_L} {m : Nat} {σ : pr_I} {p1 : Int32} {p2 : Int32} {p3 : Int32} (hm : pr_Mo T m) (hI : mI σ) (hx : vp_in p1 (mnn σ)) (he : p1 = p2) : pr_M g l 11 0 0 mX8_roundTrip [.ref m, .int p1, .int p2, .int p3] T (rg_put I m 16 σ) L (pr_R (some (.int 0)) T (rg_put I m 16 (pr_up σ 0 6 (2 : Int32))) L) pr_no := by
  refine pr_ofG (by decide) rfl hl (Nat.le_of_ble_eq_true rfl) (fun X hA hX hXn hXt => ?_)
  subst hX
  show pr_G g X mX8_roundTrip.2.2.1 _ 0 0 0 [.ref m, .int p1, .int p2, .int p3] [] T (rg_put I m 16 σ) L
  have hn5 := mI_n5 hI
  have hr4 := mI_nr4 hI
  have hl24 := mI_nl24 hI
  have hn12 := mI_nn12 hI
  refine pr_aload_n hA dX8_roundTrip_0 rfl ?_
  refine pr_iload_n hA dX8_roundTrip_1 rfl ?_
  refine pr_iload_n hA dX8_roundTrip_2 rfl ?_
  refine pr_iload_n hA dX8_roundTrip_3 rfl ?_
  have hv4 : mI σ := hI
  refine pr_callVi hA [.int p1, .int p2, .int p3] (c_ne_eq (m := m) (σ := σ) (pr_hl hA) hm hv4 hx he) v_X8_362 (mo_k0 hm) (by decide) rfl rfl rfl (by decide) (Nat.zero_le _) (Nat.zero_le _) rfl (Nat.le_of_ble_eq_true rfl) dX8_roundTrip_4 ?_
  refine pr_if_eq hA 12 dX8_roundTrip_7 (by decide) (fun c_7 => ?_) (fun c_7 => ?_)
  · exact absurd c_7 (by decide)
  · refine pr_iconst hA (0) dX8_roundTrip_10 (by decide) ?_
    exact pr_ireturn hA rfl rfl (Nat.zero_le _) (Nat.zero_le _) dX8_roundTrip_11 ⟨rfl, rfl, rfl, rfl⟩

set_option maxRecDepth 100000 in
set_option maxHeartbeats 400000 in
theorem r_roundTrip_0u {g : pr_C} {l : Launch} (hl : l.stackTraces = false) {T : pr_T} {I : pr_I} {L : pr_L} {m : Nat} {σ : pr_I} {k1 : Nat} {k2 : Nat} {p3 : Int32} (hm : pr_Mo T m) (hI : mI σ) (hk1 : k1 < mnn σ) (hk2 : k2 < mnn σ) (hst : k1 ≠ k2) (hf : p3 < 0 ∨ 1000 < p3) : pr_M g l 11 0 0 mX8_roundTrip [.ref m, .int (nI k1), .int (nI k2), .int p3] T (rg_put I m 16 σ) L (pr_R (some (.int 0)) T (rg_put I m 16 (pr_up σ 0 6 (2 : Int32))) L) pr_no := by
  refine pr_ofG (by decide) rfl hl (Nat.le_of_ble_eq_true rfl) (fun X hA hX hXn hXt => ?_)
  subst hX
  show pr_G g X mX8_roundTrip.2.2.1 _ 0 0 0 [.ref m, .int (nI k1), .int (nI k2), .int p3] [] T (rg_put I m 16 σ) L
  have hn5 := mI_n5 hI
  have hr4 := mI_nr4 hI
  have hl24 := mI_nl24 hI
  have hn12 := mI_nn12 hI
  refine pr_aload_n hA dX8_roundTrip_0 rfl ?_
  refine pr_iload_n hA dX8_roundTrip_1 rfl ?_
  refine pr_iload_n hA dX8_roundTrip_2 rfl ?_
  refine pr_iload_n hA dX8_roundTrip_3 rfl ?_
  have hv4 : mI σ := hI
  refine pr_callVi hA [.int (nI k1), .int (nI k2), .int p3] (c_ne_u (m := m) (σ := σ) (pr_hl hA) hm hv4 (by omega) (by omega) (by omega) hf) v_X8_362 (mo_k0 hm) (by decide) rfl rfl rfl (by decide) (Nat.zero_le _) (Nat.zero_le _) rfl (Nat.le_of_ble_eq_true rfl) dX8_roundTrip_4 ?_
  refine pr_if_eq hA 12 dX8_roundTrip_7 (by decide) (fun c_7 => ?_) (fun c_7 => ?_)
  · exact absurd c_7 (by decide)
  · refine pr_iconst hA (0) dX8_roundTrip_10 (by decide) ?_
    exact pr_ireturn hA rfl rfl (Nat.zero_le _) (Nat.zero_le _) dX8_roundTrip_11 ⟨rfl, rfl, rfl, rfl⟩

set_option maxRecDepth 100000 in
set_option maxHeartbeats 400000 in
theorem r_saveSnapshot_0 {g : pr_C} {l : Launch} (hl : l.stackTraces = false) {T : pr_T} {I : pr_I} {L : pr_L} {m : Nat} {σ : pr_I} {p1 : Int32} (hm : pr_Mo T m) (hI : mI σ) (hf : p1 < 0 ∨ 1 < p1) : pr_M g l 11 0 0 mX8_saveSnapshot [.ref m, .int p1] T (rg_put I m 16 σ) L (pr_R (some (.int 0)) T (rg_put I m 16 (pr_up σ 0 6 (1 : Int32))) L) pr_no := by
  refine pr_ofG (by decide) rfl hl (Nat.le_of_ble_eq_true rfl) (fun X hA hX hXn hXt => ?_)
  subst hX
  show pr_G g X mX8_saveSnapshot.2.2.1 _ 0 0 0 [.ref m, .int p1] [] T (rg_put I m 16 σ) L
  have hn5 := mI_n5 hI
  have hr4 := mI_nr4 hI
  have hl24 := mI_nl24 hI
  have hn12 := mI_nn12 hI
  refine pr_aload_n hA dX8_saveSnapshot_0 rfl ?_
  refine pr_iload_n hA dX8_saveSnapshot_1 rfl ?_
  have hv2 : mI σ := hI
  refine pr_callVi hA [.int p1] (c_ns_bad (m := m) (σ := σ) (pr_hl hA) hm hv2 hf) v_X8_401 (mo_k0 hm) (by decide) rfl rfl rfl (by decide) (Nat.zero_le _) (Nat.zero_le _) rfl (Nat.le_of_ble_eq_true rfl) dX8_saveSnapshot_2 ?_
  refine pr_if_eq hA 10 dX8_saveSnapshot_5 (by decide) (fun c_5 => ?_) (fun c_5 => ?_)
  · exact absurd c_5 (by decide)
  · refine pr_iconst hA (0) dX8_saveSnapshot_8 (by decide) ?_
    exact pr_ireturn hA rfl rfl (Nat.zero_le _) (Nat.zero_le _) dX8_saveSnapshot_9 ⟨rfl, rfl, rfl, rfl⟩

set_option maxRecDepth 100000 in
set_option maxHeartbeats 400000 in
theorem r_setCapacity_0 {g : pr_C} {l : Launch} (hl : l.stackTraces = false) {T : pr_T} {I : pr_I} {L : pr_L} {m : Nat} {σ : pr_I} {p1 : Int32} {p2 : Int32} (hm : pr_Mo T m) (hI : mI σ) (hf : ¬ vp_in p1 (mln σ)) : pr_M g l 11 0 0 mX8_setCapacity [.ref m, .int p1, .int p2] T (rg_put I m 16 σ) L (pr_R (some (.int 0)) T (rg_put I m 16 (pr_up σ 0 6 (1 : Int32))) L) pr_no := by
  refine pr_ofG (by decide) rfl hl (Nat.le_of_ble_eq_true rfl) (fun X hA hX hXn hXt => ?_)
  subst hX
  show pr_G g X mX8_setCapacity.2.2.1 _ 0 0 0 [.ref m, .int p1, .int p2, .null] [] T (rg_put I m 16 σ) L
  have hn5 := mI_n5 hI
  have hr4 := mI_nr4 hI
  have hl24 := mI_nl24 hI
  have hn12 := mI_nn12 hI
  refine pr_aload_n hA dX8_setCapacity_0 rfl ?_
  refine pr_iload_n hA dX8_setCapacity_1 rfl ?_
  have hv2 : mI σ := hI
  refine pr_callVi hA [.int p1] (c_nl_bad (m := m) (σ := σ) (pr_hl hA) hm hv2 hf) v_X8_315 (mo_k0 hm) (by decide) rfl rfl rfl (by decide) (Nat.zero_le _) (Nat.zero_le _) rfl (Nat.le_of_ble_eq_true rfl) dX8_setCapacity_2 ?_
  refine pr_if_ne hA 33 dX8_setCapacity_5 (by decide) (fun c_5 => ?_) (fun c_5 => ?_)
  · refine pr_iconst hA (0) dX8_setCapacity_33 (by decide) ?_
    exact pr_ireturn hA rfl rfl (Nat.zero_le _) (Nat.zero_le _) dX8_setCapacity_34 ⟨rfl, rfl, rfl, rfl⟩
  · exact absurd c_5 (by decide)

set_option maxRecDepth 100000 in
set_option maxHeartbeats 400000 in
theorem r_setCapacity_1 {g : pr_C} {l : Launch} (hl : l.stackTraces = false) {T : pr_T} {I : pr_I} {L : pr_L} {m : Nat} {σ : pr_I} {k1 : Nat} {p2 : Int32} (hm : pr_Mo T m) (hI : mI σ) (hk1 : k1 < mln σ) (hf : p2 < 0 ∨ 1000 < p2) : pr_M g l 11 0 0 mX8_setCapacity [.ref m, .int (nI k1), .int p2] T (rg_put I m 16 σ) L (pr_R (some (.int 0)) T (rg_put I m 16 (pr_up σ 0 6 (2 : Int32))) L) pr_no := by
  refine pr_ofG (by decide) rfl hl (Nat.le_of_ble_eq_true rfl) (fun X hA hX hXn hXt => ?_)
  subst hX
  show pr_G g X mX8_setCapacity.2.2.1 _ 0 0 0 [.ref m, .int (nI k1), .int p2, .null] [] T (rg_put I m 16 σ) L
  have hn5 := mI_n5 hI
  have hr4 := mI_nr4 hI
  have hl24 := mI_nl24 hI
  have hn12 := mI_nn12 hI
  refine pr_aload_n hA dX8_setCapacity_0 rfl ?_
  refine pr_iload_n hA dX8_setCapacity_1 rfl ?_
  have hv2 : mI σ := hI
  refine pr_callVi hA [.int (nI k1)] (c_nl_ok (m := m) (σ := σ) (pr_hl hA) hm hv2 (by omega)) v_X8_315 (mo_k0 hm) (by decide) rfl rfl rfl (by decide) (Nat.zero_le _) (Nat.zero_le _) rfl (Nat.le_of_ble_eq_true rfl) dX8_setCapacity_2 ?_
  refine pr_if_ne hA 33 dX8_setCapacity_5 (by decide) (fun c_5 => ?_) (fun c_5 => ?_)
  · exact (c_5 (by decide)).elim
  · refine pr_aload_n hA dX8_setCapacity_8 rfl ?_
    refine pr_iload_n hA dX8_setCapacity_9 rfl ?_
    refine pr_i2l hA dX8_setCapacity_10 ?_
    refine pr_lconst hA 0 dX8_setCapacity_11 (by decide) ?_
    refine pr_ldc2 hA kK_X8_299 dX8_setCapacity_12 ?_
    refine pr_callSi hA [.long ((p2).toInt64), .long (0 : Int64), .long (1000 : Int64)] (c_inE (m := m) (σ := (pr_up σ 0 6 (0 : Int32))) (v := 0) (pr_hl hA) hm (in_z0 hf (by decide) (by decide))) s_X8_80 rfl (by decide) (Nat.zero_le _) (Nat.zero_le _) rfl (Nat.le_of_ble_eq_true rfl) dX8_setCapacity_15 ?_
    refine pr_if_ne hA 25 dX8_setCapacity_18 (by decide) (fun c_18 => ?_) (fun c_18 => ?_)
    · exact (c_18 (by decide)).elim
    · refine pr_iconst hA (1) dX8_setCapacity_21 (by decide) ?_
      refine pr_goto hA 26 dX8_setCapacity_22 (by decide) ?_
      refine pr_iconst hA (2) dX8_setCapacity_26 (by decide) ?_
      refine pr_callVi hA [.int (1 : Int32), .int (2 : Int32)] (c_tiE (m := m) (σ := (pr_up σ 0 6 (0 : Int32))) (pr_hl hA) hm (ti_1 pr_upe (by decide))) v_X8_301 (mo_k0 hm) (by decide) rfl rfl rfl (by decide) (Nat.zero_le _) (Nat.zero_le _) rfl (Nat.le_of_ble_eq_true rfl) dX8_setCapacity_27 ?_
      refine pr_if_eq hA 35 dX8_setCapacity_30 (by decide) (fun c_30 => ?_) (fun c_30 => ?_)
      · exact absurd c_30 (by decide)
      · refine pr_iconst hA (0) dX8_setCapacity_33 (by decide) ?_
        exact pr_ireturn hA rfl rfl (Nat.zero_le _) (Nat.zero_le _) dX8_setCapacity_34 ⟨rfl, rfl, (by simp only [pr_up_two]), rfl⟩

set_option maxRecDepth 100000 in
set_option maxHeartbeats 400000 in
theorem r_setSetting_0 {g : pr_C} {l : Launch} (hl : l.stackTraces = false) {T : pr_T} {I : pr_I} {L : pr_L} {m : Nat} {σ : pr_I} {p1 : Int32} {p2 : Int32} (hm : pr_Mo T m) (hI : mI σ) (hf : p1 < 0 ∨ 4 < p1) : pr_M g l 11 0 0 mX8_setSetting [.ref m, .int p1, .int p2] T (rg_put I m 16 σ) L (pr_R (some (.int 0)) T (rg_put I m 16 (pr_up σ 0 6 (1 : Int32))) L) pr_no := by
  refine pr_ofG (by decide) rfl hl (Nat.le_of_ble_eq_true rfl) (fun X hA hX hXn hXt => ?_)
  subst hX
  show pr_G g X mX8_setSetting.2.2.1 _ 0 0 0 [.ref m, .int p1, .int p2, .null] [] T (rg_put I m 16 σ) L
  have hn5 := mI_n5 hI
  have hr4 := mI_nr4 hI
  have hl24 := mI_nl24 hI
  have hn12 := mI_nn12 hI
  refine pr_aload_n hA dX8_setSetting_0 rfl ?_
  refine pr_iconst hA (0) dX8_setSetting_1 (by decide) ?_
  refine pr_putE (I' := (rg_put I m 16 (pr_up σ 0 6 (0 : Int32)))) hA f_X8_60 rfl (mo_k0 hm) (rg_up0 (by decide)) dX8_setSetting_2 ?_
  refine pr_aload_n hA dX8_setSetting_5 rfl ?_
  refine pr_iload_n hA dX8_setSetting_6 rfl ?_
  refine pr_i2l hA dX8_setSetting_7 ?_
  refine pr_lconst hA 0 dX8_setSetting_8 (by decide) ?_
  refine pr_ldc2 hA kK_X8_320 dX8_setSetting_9 ?_
  refine pr_callSi hA [.long ((p1).toInt64), .long (0 : Int64), .long (4 : Int64)] (c_inE (m := m) (σ := (pr_up σ 0 6 (0 : Int32))) (v := 0) (pr_hl hA) hm (in_z0 hf (by decide) (by decide))) s_X8_80 rfl (by decide) (Nat.zero_le _) (Nat.zero_le _) rfl (Nat.le_of_ble_eq_true rfl) dX8_setSetting_12 ?_
  refine pr_if_eq hA 40 dX8_setSetting_15 (by decide) (fun c_15 => ?_) (fun c_15 => ?_)
  · refine pr_iconst hA (1) dX8_setSetting_40 (by decide) ?_
    refine pr_goto hA 45 dX8_setSetting_41 (by decide) ?_
    refine pr_iconst hA (1) dX8_setSetting_45 (by decide) ?_
    refine pr_callVi hA [.int (1 : Int32), .int (1 : Int32)] (c_tiE (m := m) (σ := (pr_up σ 0 6 (0 : Int32))) (pr_hl hA) hm (ti_1 pr_upe (by decide))) v_X8_301 (mo_k0 hm) (by decide) rfl rfl rfl (by decide) (Nat.zero_le _) (Nat.zero_le _) rfl (Nat.le_of_ble_eq_true rfl) dX8_setSetting_46 ?_
    refine pr_if_eq hA 54 dX8_setSetting_49 (by decide) (fun c_49 => ?_) (fun c_49 => ?_)
    · exact absurd c_49 (by decide)
    · refine pr_iconst hA (0) dX8_setSetting_52 (by decide) ?_
      exact pr_ireturn hA rfl rfl (Nat.zero_le _) (Nat.zero_le _) dX8_setSetting_53 ⟨rfl, rfl, (by simp only [pr_up_two]), rfl⟩
  · exact (c_15 (by decide)).elim

set_option maxRecDepth 100000 in
set_option maxHeartbeats 400000 in
theorem r_setting_0 {g : pr_C} {l : Launch} (hl : l.stackTraces = false) {T : pr_T} {I : pr_I} {L : pr_L} {m : Nat} {σ : pr_I} {p1 : Int32} (hm : pr_Mo T m) (hI : mI σ) (hf : p1 < 0 ∨ 4 < p1) : pr_M g l 11 0 0 mX8_setting [.ref m, .int p1] T (rg_put I m 16 σ) L (pr_R (some (.int 0)) T (rg_put I m 16 (pr_up σ 0 6 (1 : Int32))) L) pr_no := by
  refine pr_ofG (by decide) rfl hl (Nat.le_of_ble_eq_true rfl) (fun X hA hX hXn hXt => ?_)
  subst hX
  show pr_G g X mX8_setting.2.2.1 _ 0 0 0 [.ref m, .int p1] [] T (rg_put I m 16 σ) L
  have hn5 := mI_n5 hI
  have hr4 := mI_nr4 hI
  have hl24 := mI_nl24 hI
  have hn12 := mI_nn12 hI
  refine pr_aload_n hA dX8_setting_0 rfl ?_
  refine pr_iconst hA (0) dX8_setting_1 (by decide) ?_
  refine pr_putE (I' := (rg_put I m 16 (pr_up σ 0 6 (0 : Int32)))) hA f_X8_60 rfl (mo_k0 hm) (rg_up0 (by decide)) dX8_setting_2 ?_
  refine pr_aload_n hA dX8_setting_5 rfl ?_
  refine pr_iload_n hA dX8_setting_6 rfl ?_
  refine pr_i2l hA dX8_setting_7 ?_
  refine pr_lconst hA 0 dX8_setting_8 (by decide) ?_
  refine pr_ldc2 hA kK_X8_320 dX8_setting_9 ?_
  refine pr_callSi hA [.long ((p1).toInt64), .long (0 : Int64), .long (4 : Int64)] (c_inE (m := m) (σ := (pr_up σ 0 6 (0 : Int32))) (v := 0) (pr_hl hA) hm (in_z0 hf (by decide) (by decide))) s_X8_80 rfl (by decide) (Nat.zero_le _) (Nat.zero_le _) rfl (Nat.le_of_ble_eq_true rfl) dX8_setting_12 ?_
  refine pr_if_ne hA 22 dX8_setting_15 (by decide) (fun c_15 => ?_) (fun c_15 => ?_)
  · exact (c_15 (by decide)).elim
  · refine pr_iconst hA (1) dX8_setting_18 (by decide) ?_
    refine pr_goto hA 23 dX8_setting_19 (by decide) ?_
    refine pr_iconst hA (1) dX8_setting_23 (by decide) ?_
    refine pr_callVi hA [.int (1 : Int32), .int (1 : Int32)] (c_tiE (m := m) (σ := (pr_up σ 0 6 (0 : Int32))) (pr_hl hA) hm (ti_1 pr_upe (by decide))) v_X8_301 (mo_k0 hm) (by decide) rfl rfl rfl (by decide) (Nat.zero_le _) (Nat.zero_le _) rfl (Nat.le_of_ble_eq_true rfl) dX8_setting_24 ?_
    refine pr_if_eq hA 34 dX8_setting_27 (by decide) (fun c_27 => ?_) (fun c_27 => ?_)
    · exact absurd c_27 (by decide)
    · refine pr_iconst hA (0) dX8_setting_30 (by decide) ?_
      refine pr_goto hA 42 dX8_setting_31 (by decide) ?_
      exact pr_ireturn hA rfl rfl (Nat.zero_le _) (Nat.zero_le _) dX8_setting_42 ⟨rfl, rfl, (by simp only [pr_up_two]), rfl⟩

set_option maxRecDepth 100000 in
set_option maxHeartbeats 400000 in
theorem r_smallestCut_0 {g : pr_C} {l : Launch} (hl : l.stackTraces = false) {T : pr_T} {I : pr_I} {L : pr_L} {m : Nat} {σ : pr_I} {p1 : Int32} {p2 : Int32} (hm : pr_Mo T m) (hI : mI σ) (hf : ¬ vp_in p1 (mnn σ) ∨ ¬ vp_in p2 (mnn σ)) : pr_M g l 11 0 0 mX8_smallestCut [.ref m, .int p1, .int p2] T (rg_put I m 16 σ) L (pr_R (some (.int 0)) T (rg_put I m 16 (pr_up σ 0 6 (1 : Int32))) L) pr_no := by
  refine pr_ofG (by decide) rfl hl (Nat.le_of_ble_eq_true rfl) (fun X hA hX hXn hXt => ?_)
  subst hX
  show pr_G g X mX8_smallestCut.2.2.1 _ 0 0 0 [.ref m, .int p1, .int p2, .null, .null, .null] [] T (rg_put I m 16 σ) L
  have hn5 := mI_n5 hI
  have hr4 := mI_nr4 hI
  have hl24 := mI_nl24 hI
  have hn12 := mI_nn12 hI
  refine pr_aload_n hA dX8_smallestCut_0 rfl ?_
  refine pr_iload_n hA dX8_smallestCut_1 rfl ?_
  refine pr_iload_n hA dX8_smallestCut_2 rfl ?_
  have hv3 : mI σ := hI
  refine pr_callVi hA [.int p1, .int p2] (c_nn_bad (m := m) (σ := σ) (pr_hl hA) hm hv3 hf) v_X8_337 (mo_k0 hm) (by decide) rfl rfl rfl (by decide) (Nat.zero_le _) (Nat.zero_le _) rfl (Nat.le_of_ble_eq_true rfl) dX8_smallestCut_3 ?_
  refine pr_if_eq hA 11 dX8_smallestCut_6 (by decide) (fun c_6 => ?_) (fun c_6 => ?_)
  · exact absurd c_6 (by decide)
  · refine pr_iconst hA (0) dX8_smallestCut_9 (by decide) ?_
    exact pr_ireturn hA rfl rfl (Nat.zero_le _) (Nat.zero_le _) dX8_smallestCut_10 ⟨rfl, rfl, rfl, rfl⟩

set_option maxRecDepth 100000 in
set_option maxHeartbeats 400000 in
theorem r_smallestCut_0e {g : pr_C} {l : Launch} (hl : l.stackTraces = false) {T : pr_T} {I : pr_I} {L : pr_L} {m : Nat} {σ : pr_I} {p1 : Int32} {p2 : Int32} (hm : pr_Mo T m) (hI : mI σ) (hx : vp_in p1 (mnn σ)) (he : p1 = p2) : pr_M g l 11 0 0 mX8_smallestCut [.ref m, .int p1, .int p2] T (rg_put I m 16 σ) L (pr_R (some (.int 0)) T (rg_put I m 16 (pr_up σ 0 6 (2 : Int32))) L) pr_no := by
  refine pr_ofG (by decide) rfl hl (Nat.le_of_ble_eq_true rfl) (fun X hA hX hXn hXt => ?_)
  subst hX
  show pr_G g X mX8_smallestCut.2.2.1 _ 0 0 0 [.ref m, .int p1, .int p2, .null, .null, .null] [] T (rg_put I m 16 σ) L
  have hn5 := mI_n5 hI
  have hr4 := mI_nr4 hI
  have hl24 := mI_nl24 hI
  have hn12 := mI_nn12 hI
  refine pr_aload_n hA dX8_smallestCut_0 rfl ?_
  refine pr_iload_n hA dX8_smallestCut_1 rfl ?_
  refine pr_iload_n hA dX8_smallestCut_2 rfl ?_
  have hv3 : mI σ := hI
  refine pr_callVi hA [.int p1, .int p2] (c_nn_eq (m := m) (σ := σ) (pr_hl hA) hm hv3 hx he) v_X8_337 (mo_k0 hm) (by decide) rfl rfl rfl (by decide) (Nat.zero_le _) (Nat.zero_le _) rfl (Nat.le_of_ble_eq_true rfl) dX8_smallestCut_3 ?_
  refine pr_if_eq hA 11 dX8_smallestCut_6 (by decide) (fun c_6 => ?_) (fun c_6 => ?_)
  · exact absurd c_6 (by decide)
  · refine pr_iconst hA (0) dX8_smallestCut_9 (by decide) ?_
    exact pr_ireturn hA rfl rfl (Nat.zero_le _) (Nat.zero_le _) dX8_smallestCut_10 ⟨rfl, rfl, rfl, rfl⟩

set_option maxRecDepth 100000 in
set_option maxHeartbeats 400000 in
theorem r_stateAfter_0 {g : pr_C} {l : Launch} (hl : l.stackTraces = false) {T : pr_T} {I : pr_I} {L : pr_L} {m : Nat} {σ : pr_I} {p1 : Int32} {p2 : Int32} (hm : pr_Mo T m) (hI : mI σ) (hf : ¬ vp_in p1 (mrn σ)) : pr_M g l 11 0 0 mX8_stateAfter [.ref m, .int p1, .int p2] T (rg_put I m 16 σ) L (pr_R (some (.int 0)) T (rg_put I m 16 (pr_up σ 0 6 (1 : Int32))) L) pr_no := by
  refine pr_ofG (by decide) rfl hl (Nat.le_of_ble_eq_true rfl) (fun X hA hX hXn hXt => ?_)
  subst hX
  show pr_G g X mX8_stateAfter.2.2.1 _ 0 0 0 [.ref m, .int p1, .int p2, .null] [] T (rg_put I m 16 σ) L
  have hn5 := mI_n5 hI
  have hr4 := mI_nr4 hI
  have hl24 := mI_nl24 hI
  have hn12 := mI_nn12 hI
  refine pr_aload_n hA dX8_stateAfter_0 rfl ?_
  refine pr_iload_n hA dX8_stateAfter_1 rfl ?_
  have hv2 : mI σ := hI
  refine pr_callVi hA [.int p1] (c_nq_bad (m := m) (σ := σ) (pr_hl hA) hm hv2 hf) v_X8_346 (mo_k0 hm) (by decide) rfl rfl rfl (by decide) (Nat.zero_le _) (Nat.zero_le _) rfl (Nat.le_of_ble_eq_true rfl) dX8_stateAfter_2 ?_
  refine pr_if_ne hA 17 dX8_stateAfter_5 (by decide) (fun c_5 => ?_) (fun c_5 => ?_)
  · refine pr_iconst hA (0) dX8_stateAfter_17 (by decide) ?_
    exact pr_ireturn hA rfl rfl (Nat.zero_le _) (Nat.zero_le _) dX8_stateAfter_18 ⟨rfl, rfl, rfl, rfl⟩
  · exact absurd c_5 (by decide)

set_option maxRecDepth 100000 in
set_option maxHeartbeats 400000 in
theorem r_stateAfter_1 {g : pr_C} {l : Launch} (hl : l.stackTraces = false) {T : pr_T} {I : pr_I} {L : pr_L} {m : Nat} {σ : pr_I} {k1 : Nat} {p2 : Int32} (hm : pr_Mo T m) (hI : mI σ) (hk1 : k1 < mrn σ) (hf : p2 < 0 ∨ 2000 < p2) : pr_M g l 11 0 0 mX8_stateAfter [.ref m, .int (nI k1), .int p2] T (rg_put I m 16 σ) L (pr_R (some (.int 0)) T (rg_put I m 16 (pr_up σ 0 6 (2 : Int32))) L) pr_no := by
  refine pr_ofG (by decide) rfl hl (Nat.le_of_ble_eq_true rfl) (fun X hA hX hXn hXt => ?_)
  subst hX
  show pr_G g X mX8_stateAfter.2.2.1 _ 0 0 0 [.ref m, .int (nI k1), .int p2, .null] [] T (rg_put I m 16 σ) L
  have hn5 := mI_n5 hI
  have hr4 := mI_nr4 hI
  have hl24 := mI_nl24 hI
  have hn12 := mI_nn12 hI
  refine pr_aload_n hA dX8_stateAfter_0 rfl ?_
  refine pr_iload_n hA dX8_stateAfter_1 rfl ?_
  have hv2 : mI σ := hI
  refine pr_callVi hA [.int (nI k1)] (c_nq_ok (m := m) (σ := σ) (pr_hl hA) hm hv2 (by omega)) v_X8_346 (mo_k0 hm) (by decide) rfl rfl rfl (by decide) (Nat.zero_le _) (Nat.zero_le _) rfl (Nat.le_of_ble_eq_true rfl) dX8_stateAfter_2 ?_
  refine pr_if_ne hA 17 dX8_stateAfter_5 (by decide) (fun c_5 => ?_) (fun c_5 => ?_)
  · exact (c_5 (by decide)).elim
  · refine pr_aload_n hA dX8_stateAfter_8 rfl ?_
    refine pr_iload_n hA dX8_stateAfter_9 rfl ?_
    refine pr_iconst hA (2) dX8_stateAfter_10 (by decide) ?_
    have hv11 : mI (pr_up σ 0 6 (0 : Int32)) := (mI.upn hI rfl)
    refine pr_callVi hA [.int p2, .int (2 : Int32)] (c_nt_bad (m := m) (σ := (pr_up σ 0 6 (0 : Int32))) (pr_hl hA) hm pr_upe hv11 (by decide) hf) v_X8_398 (mo_k0 hm) (by decide) rfl rfl rfl (by decide) (Nat.zero_le _) (Nat.zero_le _) rfl (Nat.le_of_ble_eq_true rfl) dX8_stateAfter_11 ?_
    refine pr_if_eq hA 19 dX8_stateAfter_14 (by decide) (fun c_14 => ?_) (fun c_14 => ?_)
    · exact absurd c_14 (by decide)
    · refine pr_iconst hA (0) dX8_stateAfter_17 (by decide) ?_
      exact pr_ireturn hA rfl rfl (Nat.zero_le _) (Nat.zero_le _) dX8_stateAfter_18 ⟨rfl, rfl, (by simp only [pr_up_two]), rfl⟩

set_option maxRecDepth 100000 in
set_option maxHeartbeats 400000 in
theorem r_takeDown_0 {g : pr_C} {l : Launch} (hl : l.stackTraces = false) {T : pr_T} {I : pr_I} {L : pr_L} {m : Nat} {σ : pr_I} {p1 : Int32} (hm : pr_Mo T m) (hI : mI σ) (hf : ¬ vp_in p1 (mln σ)) : pr_M g l 11 0 0 mX8_takeDown [.ref m, .int p1] T (rg_put I m 16 σ) L (pr_R (some (.int 0)) T (rg_put I m 16 (pr_up σ 0 6 (1 : Int32))) L) pr_no := by
  refine pr_ofG (by decide) rfl hl (Nat.le_of_ble_eq_true rfl) (fun X hA hX hXn hXt => ?_)
  subst hX
  show pr_G g X mX8_takeDown.2.2.1 _ 0 0 0 [.ref m, .int p1] [] T (rg_put I m 16 σ) L
  have hn5 := mI_n5 hI
  have hr4 := mI_nr4 hI
  have hl24 := mI_nl24 hI
  have hn12 := mI_nn12 hI
  refine pr_aload_n hA dX8_takeDown_0 rfl ?_
  refine pr_iload_n hA dX8_takeDown_1 rfl ?_
  have hv2 : mI σ := hI
  refine pr_callVi hA [.int p1] (c_nl_bad (m := m) (σ := σ) (pr_hl hA) hm hv2 hf) v_X8_315 (mo_k0 hm) (by decide) rfl rfl rfl (by decide) (Nat.zero_le _) (Nat.zero_le _) rfl (Nat.le_of_ble_eq_true rfl) dX8_takeDown_2 ?_
  refine pr_if_eq hA 10 dX8_takeDown_5 (by decide) (fun c_5 => ?_) (fun c_5 => ?_)
  · exact absurd c_5 (by decide)
  · refine pr_iconst hA (0) dX8_takeDown_8 (by decide) ?_
    exact pr_ireturn hA rfl rfl (Nat.zero_le _) (Nat.zero_le _) dX8_takeDown_9 ⟨rfl, rfl, rfl, rfl⟩

set_option maxRecDepth 100000 in
set_option maxHeartbeats 400000 in
theorem r_ticketOn_0 {g : pr_C} {l : Launch} (hl : l.stackTraces = false) {T : pr_T} {I : pr_I} {L : pr_L} {m : Nat} {σ : pr_I} {p1 : Int32} {p2 : Int32} (hm : pr_Mo T m) (hI : mI σ) (hf : ¬ vp_in p1 (mln σ)) : pr_M g l 11 0 0 mX8_ticketOn [.ref m, .int p1, .int p2] T (rg_put I m 16 σ) L (pr_R (some (.int 0)) T (rg_put I m 16 (pr_up σ 0 6 (1 : Int32))) L) pr_no := by
  refine pr_ofG (by decide) rfl hl (Nat.le_of_ble_eq_true rfl) (fun X hA hX hXn hXt => ?_)
  subst hX
  show pr_G g X mX8_ticketOn.2.2.1 _ 0 0 0 [.ref m, .int p1, .int p2, .null, .null] [] T (rg_put I m 16 σ) L
  have hn5 := mI_n5 hI
  have hr4 := mI_nr4 hI
  have hl24 := mI_nl24 hI
  have hn12 := mI_nn12 hI
  refine pr_aload_n hA dX8_ticketOn_0 rfl ?_
  refine pr_iload_n hA dX8_ticketOn_1 rfl ?_
  have hv2 : mI σ := hI
  refine pr_callVi hA [.int p1] (c_nl_bad (m := m) (σ := σ) (pr_hl hA) hm hv2 hf) v_X8_315 (mo_k0 hm) (by decide) rfl rfl rfl (by decide) (Nat.zero_le _) (Nat.zero_le _) rfl (Nat.le_of_ble_eq_true rfl) dX8_ticketOn_2 ?_
  refine pr_if_eq hA 10 dX8_ticketOn_5 (by decide) (fun c_5 => ?_) (fun c_5 => ?_)
  · exact absurd c_5 (by decide)
  · refine pr_iconst hA (0) dX8_ticketOn_8 (by decide) ?_
    exact pr_ireturn hA rfl rfl (Nat.zero_le _) (Nat.zero_le _) dX8_ticketOn_9 ⟨rfl, rfl, rfl, rfl⟩

set_option maxRecDepth 100000 in
set_option maxHeartbeats 400000 in
theorem r_ticketValue_0 {g : pr_C} {l : Launch} (hl : l.stackTraces = false) {T : pr_T} {I : pr_I} {L : pr_L} {m : Nat} {σ : pr_I} {p1 : Int32} {p2 : Int32} (hm : pr_Mo T m) (hI : mI σ) (hf : ¬ vp_in p1 (mtn σ)) : pr_M g l 11 0 0 mX8_ticketValue [.ref m, .int p1, .int p2] T (rg_put I m 16 σ) L (pr_R (some (.int 0)) T (rg_put I m 16 (pr_up σ 0 6 (1 : Int32))) L) pr_no := by
  refine pr_ofG (by decide) rfl hl (Nat.le_of_ble_eq_true rfl) (fun X hA hX hXn hXt => ?_)
  subst hX
  show pr_G g X mX8_ticketValue.2.2.1 _ 0 0 0 [.ref m, .int p1, .int p2] [] T (rg_put I m 16 σ) L
  have hn5 := mI_n5 hI
  have hr4 := mI_nr4 hI
  have hl24 := mI_nl24 hI
  have hn12 := mI_nn12 hI
  refine pr_aload_n hA dX8_ticketValue_0 rfl ?_
  refine pr_iconst hA (0) dX8_ticketValue_1 (by decide) ?_
  refine pr_putE (I' := (rg_put I m 16 (pr_up σ 0 6 (0 : Int32)))) hA f_X8_60 rfl (mo_k0 hm) (rg_up0 (by decide)) dX8_ticketValue_2 ?_
  refine pr_aload_n hA dX8_ticketValue_5 rfl ?_
  refine pr_iload_n hA dX8_ticketValue_6 rfl ?_
  refine pr_i2l hA dX8_ticketValue_7 ?_
  refine pr_lconst hA 0 dX8_ticketValue_8 (by decide) ?_
  refine pr_aload_n hA dX8_ticketValue_9 rfl ?_
  refine pr_getR hA f_X8_9 rfl (mo_k0 hm) (mo_f0_0 hm) dX8_ticketValue_10 ?_
  refine pr_bipush hA (nI 9) dX8_ticketValue_13 (by decide) ?_
  refine pr_ialdM (v := (nI (mtn σ))) hA (mo_k1 hm) (by omega) (by omega) ((rg_val (by decide)).trans ((pr_upv (by decide)).trans (mI_n hI))) dX8_ticketValue_15 ?_
  refine pr_iconst hA (1) dX8_ticketValue_16 (by decide) ?_
  refine pr_isub hA dX8_ticketValue_17 ?_
  refine pr_i2l hA dX8_ticketValue_18 ?_
  refine pr_callSi hA [.long ((p1).toInt64), .long (0 : Int64), .long ((((nI (mtn σ)) - (1 : Int32))).toInt64)] (c_inE (m := m) (σ := (pr_up σ 0 6 (0 : Int32))) (v := 0) (pr_hl hA) hm (inK0 hf (by omega))) s_X8_80 rfl (by decide) (Nat.zero_le _) (Nat.zero_le _) rfl (Nat.le_of_ble_eq_true rfl) dX8_ticketValue_19 ?_
  refine pr_if_ne hA 29 dX8_ticketValue_22 (by decide) (fun c_22 => ?_) (fun c_22 => ?_)
  · exact (c_22 (by decide)).elim
  · refine pr_iconst hA (1) dX8_ticketValue_25 (by decide) ?_
    refine pr_goto hA 30 dX8_ticketValue_26 (by decide) ?_
    refine pr_iconst hA (1) dX8_ticketValue_30 (by decide) ?_
    refine pr_callVi hA [.int (1 : Int32), .int (1 : Int32)] (c_tiE (m := m) (σ := (pr_up σ 0 6 (0 : Int32))) (pr_hl hA) hm (ti_1 pr_upe (by decide))) v_X8_301 (mo_k0 hm) (by decide) rfl rfl rfl (by decide) (Nat.zero_le _) (Nat.zero_le _) rfl (Nat.le_of_ble_eq_true rfl) dX8_ticketValue_31 ?_
    refine pr_if_ne hA 62 dX8_ticketValue_34 (by decide) (fun c_34 => ?_) (fun c_34 => ?_)
    · refine pr_iconst hA (0) dX8_ticketValue_62 (by decide) ?_
      exact pr_ireturn hA rfl rfl (Nat.zero_le _) (Nat.zero_le _) dX8_ticketValue_63 ⟨rfl, rfl, (by simp only [pr_up_two]), rfl⟩
    · exact absurd c_34 (by decide)

set_option maxRecDepth 100000 in
set_option maxHeartbeats 400000 in
theorem r_ticketValue_1 {g : pr_C} {l : Launch} (hl : l.stackTraces = false) {T : pr_T} {I : pr_I} {L : pr_L} {m : Nat} {σ : pr_I} {k1 : Nat} {p2 : Int32} (hm : pr_Mo T m) (hI : mI σ) (hk1 : k1 < mtn σ) (hf : p2 < 0 ∨ 7 < p2) : pr_M g l 11 0 0 mX8_ticketValue [.ref m, .int (nI k1), .int p2] T (rg_put I m 16 σ) L (pr_R (some (.int 0)) T (rg_put I m 16 (pr_up σ 0 6 (2 : Int32))) L) pr_no := by
  refine pr_ofG (by decide) rfl hl (Nat.le_of_ble_eq_true rfl) (fun X hA hX hXn hXt => ?_)
  subst hX
  show pr_G g X mX8_ticketValue.2.2.1 _ 0 0 0 [.ref m, .int (nI k1), .int p2] [] T (rg_put I m 16 σ) L
  have hn5 := mI_n5 hI
  have hr4 := mI_nr4 hI
  have hl24 := mI_nl24 hI
  have hn12 := mI_nn12 hI
  refine pr_aload_n hA dX8_ticketValue_0 rfl ?_
  refine pr_iconst hA (0) dX8_ticketValue_1 (by decide) ?_
  refine pr_putE (I' := (rg_put I m 16 (pr_up σ 0 6 (0 : Int32)))) hA f_X8_60 rfl (mo_k0 hm) (rg_up0 (by decide)) dX8_ticketValue_2 ?_
  refine pr_aload_n hA dX8_ticketValue_5 rfl ?_
  refine pr_iload_n hA dX8_ticketValue_6 rfl ?_
  refine pr_i2l hA dX8_ticketValue_7 ?_
  refine pr_lconst hA 0 dX8_ticketValue_8 (by decide) ?_
  refine pr_aload_n hA dX8_ticketValue_9 rfl ?_
  refine pr_getR hA f_X8_9 rfl (mo_k0 hm) (mo_f0_0 hm) dX8_ticketValue_10 ?_
  refine pr_bipush hA (nI 9) dX8_ticketValue_13 (by decide) ?_
  refine pr_ialdM (v := (nI (mtn σ))) hA (mo_k1 hm) (by omega) (by omega) ((rg_val (by decide)).trans ((pr_upv (by decide)).trans (mI_n hI))) dX8_ticketValue_15 ?_
  refine pr_iconst hA (1) dX8_ticketValue_16 (by decide) ?_
  refine pr_isub hA dX8_ticketValue_17 ?_
  refine pr_i2l hA dX8_ticketValue_18 ?_
  refine pr_callSi hA [.long (((nI k1)).toInt64), .long (0 : Int64), .long ((((nI (mtn σ)) - (1 : Int32))).toInt64)] (c_inE (m := m) (σ := (pr_up σ 0 6 (0 : Int32))) (v := 1) (pr_hl hA) hm (inK1 (by omega) (by omega))) s_X8_80 rfl (by decide) (Nat.zero_le _) (Nat.zero_le _) rfl (Nat.le_of_ble_eq_true rfl) dX8_ticketValue_19 ?_
  refine pr_if_ne hA 29 dX8_ticketValue_22 (by decide) (fun c_22 => ?_) (fun c_22 => ?_)
  · refine pr_iconst hA (0) dX8_ticketValue_29 (by decide) ?_
    refine pr_iconst hA (1) dX8_ticketValue_30 (by decide) ?_
    refine pr_callVi hA [.int (0 : Int32), .int (1 : Int32)] (c_tiE (m := m) (σ := (pr_up σ 0 6 (0 : Int32))) (pr_hl hA) hm (ti_0 pr_upe)) v_X8_301 (mo_k0 hm) (by decide) rfl rfl rfl (by decide) (Nat.zero_le _) (Nat.zero_le _) rfl (Nat.le_of_ble_eq_true rfl) dX8_ticketValue_31 ?_
    refine pr_if_ne hA 62 dX8_ticketValue_34 (by decide) (fun c_34 => ?_) (fun c_34 => ?_)
    · exact (c_34 (by decide)).elim
    · refine pr_aload_n hA dX8_ticketValue_37 rfl ?_
      refine pr_iload_n hA dX8_ticketValue_38 rfl ?_
      refine pr_i2l hA dX8_ticketValue_39 ?_
      refine pr_lconst hA 0 dX8_ticketValue_40 (by decide) ?_
      refine pr_ldc2 hA kK_X8_351 dX8_ticketValue_41 ?_
      refine pr_callSi hA [.long ((p2).toInt64), .long (0 : Int64), .long (7 : Int64)] (c_inE (m := m) (σ := (pr_up σ 0 6 (0 : Int32))) (v := 0) (pr_hl hA) hm (in_z0 hf (by decide) (by decide))) s_X8_80 rfl (by decide) (Nat.zero_le _) (Nat.zero_le _) rfl (Nat.le_of_ble_eq_true rfl) dX8_ticketValue_44 ?_
      refine pr_if_ne hA 54 dX8_ticketValue_47 (by decide) (fun c_47 => ?_) (fun c_47 => ?_)
      · exact (c_47 (by decide)).elim
      · refine pr_iconst hA (1) dX8_ticketValue_50 (by decide) ?_
        refine pr_goto hA 55 dX8_ticketValue_51 (by decide) ?_
        refine pr_iconst hA (2) dX8_ticketValue_55 (by decide) ?_
        refine pr_callVi hA [.int (1 : Int32), .int (2 : Int32)] (c_tiE (m := m) (σ := (pr_up σ 0 6 (0 : Int32))) (pr_hl hA) hm (ti_1 pr_upe (by decide))) v_X8_301 (mo_k0 hm) (by decide) rfl rfl rfl (by decide) (Nat.zero_le _) (Nat.zero_le _) rfl (Nat.le_of_ble_eq_true rfl) dX8_ticketValue_56 ?_
        refine pr_if_eq hA 64 dX8_ticketValue_59 (by decide) (fun c_59 => ?_) (fun c_59 => ?_)
        · exact absurd c_59 (by decide)
        · refine pr_iconst hA (0) dX8_ticketValue_62 (by decide) ?_
          exact pr_ireturn hA rfl rfl (Nat.zero_le _) (Nat.zero_le _) dX8_ticketValue_63 ⟨rfl, rfl, (by simp only [pr_up_two]), rfl⟩
  · exact absurd c_22 (by decide)

set_option maxRecDepth 100000 in
set_option maxHeartbeats 400000 in
theorem r_ticketsInState_0 {g : pr_C} {l : Launch} (hl : l.stackTraces = false) {T : pr_T} {I : pr_I} {L : pr_L} {m : Nat} {σ : pr_I} {p1 : Int32} (hm : pr_Mo T m) (hI : mI σ) (hf : p1 < 0 ∨ 3 < p1) : pr_M g l 11 0 0 mX8_ticketsInState [.ref m, .int p1] T (rg_put I m 16 σ) L (pr_R (some (.int 0)) T (rg_put I m 16 (pr_up σ 0 6 (1 : Int32))) L) pr_no := by
  refine pr_ofG (by decide) rfl hl (Nat.le_of_ble_eq_true rfl) (fun X hA hX hXn hXt => ?_)
  subst hX
  show pr_G g X mX8_ticketsInState.2.2.1 _ 0 0 0 [.ref m, .int p1, .null, .null] [] T (rg_put I m 16 σ) L
  have hn5 := mI_n5 hI
  have hr4 := mI_nr4 hI
  have hl24 := mI_nl24 hI
  have hn12 := mI_nn12 hI
  refine pr_aload_n hA dX8_ticketsInState_0 rfl ?_
  refine pr_iconst hA (0) dX8_ticketsInState_1 (by decide) ?_
  refine pr_putE (I' := (rg_put I m 16 (pr_up σ 0 6 (0 : Int32)))) hA f_X8_60 rfl (mo_k0 hm) (rg_up0 (by decide)) dX8_ticketsInState_2 ?_
  refine pr_aload_n hA dX8_ticketsInState_5 rfl ?_
  refine pr_iload_n hA dX8_ticketsInState_6 rfl ?_
  refine pr_i2l hA dX8_ticketsInState_7 ?_
  refine pr_lconst hA 0 dX8_ticketsInState_8 (by decide) ?_
  refine pr_ldc2 hA kK_X8_356 dX8_ticketsInState_9 ?_
  refine pr_callSi hA [.long ((p1).toInt64), .long (0 : Int64), .long (3 : Int64)] (c_inE (m := m) (σ := (pr_up σ 0 6 (0 : Int32))) (v := 0) (pr_hl hA) hm (in_z0 hf (by decide) (by decide))) s_X8_80 rfl (by decide) (Nat.zero_le _) (Nat.zero_le _) rfl (Nat.le_of_ble_eq_true rfl) dX8_ticketsInState_12 ?_
  refine pr_if_ne hA 22 dX8_ticketsInState_15 (by decide) (fun c_15 => ?_) (fun c_15 => ?_)
  · exact (c_15 (by decide)).elim
  · refine pr_iconst hA (1) dX8_ticketsInState_18 (by decide) ?_
    refine pr_goto hA 23 dX8_ticketsInState_19 (by decide) ?_
    refine pr_iconst hA (1) dX8_ticketsInState_23 (by decide) ?_
    refine pr_callVi hA [.int (1 : Int32), .int (1 : Int32)] (c_tiE (m := m) (σ := (pr_up σ 0 6 (0 : Int32))) (pr_hl hA) hm (ti_1 pr_upe (by decide))) v_X8_301 (mo_k0 hm) (by decide) rfl rfl rfl (by decide) (Nat.zero_le _) (Nat.zero_le _) rfl (Nat.le_of_ble_eq_true rfl) dX8_ticketsInState_24 ?_
    refine pr_if_eq hA 32 dX8_ticketsInState_27 (by decide) (fun c_27 => ?_) (fun c_27 => ?_)
    · exact absurd c_27 (by decide)
    · refine pr_iconst hA (0) dX8_ticketsInState_30 (by decide) ?_
      exact pr_ireturn hA rfl rfl (Nat.zero_le _) (Nat.zero_le _) dX8_ticketsInState_31 ⟨rfl, rfl, (by simp only [pr_up_two]), rfl⟩

set_option maxRecDepth 100000 in
set_option maxHeartbeats 400000 in
theorem r_ticketsOf_0 {g : pr_C} {l : Launch} (hl : l.stackTraces = false) {T : pr_T} {I : pr_I} {L : pr_L} {m : Nat} {σ : pr_I} {p1 : Int32} {p2 : Int32} (hm : pr_Mo T m) (hI : mI σ) (hf : ¬ vp_in p1 (mrn σ)) : pr_M g l 11 0 0 mX8_ticketsOf [.ref m, .int p1, .int p2] T (rg_put I m 16 σ) L (pr_R (some (.int 0)) T (rg_put I m 16 (pr_up σ 0 6 (1 : Int32))) L) pr_no := by
  refine pr_ofG (by decide) rfl hl (Nat.le_of_ble_eq_true rfl) (fun X hA hX hXn hXt => ?_)
  subst hX
  show pr_G g X mX8_ticketsOf.2.2.1 _ 0 0 0 [.ref m, .int p1, .int p2, .null, .null] [] T (rg_put I m 16 σ) L
  have hn5 := mI_n5 hI
  have hr4 := mI_nr4 hI
  have hl24 := mI_nl24 hI
  have hn12 := mI_nn12 hI
  refine pr_aload_n hA dX8_ticketsOf_0 rfl ?_
  refine pr_iload_n hA dX8_ticketsOf_1 rfl ?_
  have hv2 : mI σ := hI
  refine pr_callVi hA [.int p1] (c_nq_bad (m := m) (σ := σ) (pr_hl hA) hm hv2 hf) v_X8_346 (mo_k0 hm) (by decide) rfl rfl rfl (by decide) (Nat.zero_le _) (Nat.zero_le _) rfl (Nat.le_of_ble_eq_true rfl) dX8_ticketsOf_2 ?_
  refine pr_if_ne hA 33 dX8_ticketsOf_5 (by decide) (fun c_5 => ?_) (fun c_5 => ?_)
  · refine pr_iconst hA (0) dX8_ticketsOf_33 (by decide) ?_
    exact pr_ireturn hA rfl rfl (Nat.zero_le _) (Nat.zero_le _) dX8_ticketsOf_34 ⟨rfl, rfl, rfl, rfl⟩
  · exact absurd c_5 (by decide)

set_option maxRecDepth 100000 in
set_option maxHeartbeats 400000 in
theorem r_ticketsOf_1 {g : pr_C} {l : Launch} (hl : l.stackTraces = false) {T : pr_T} {I : pr_I} {L : pr_L} {m : Nat} {σ : pr_I} {k1 : Nat} {p2 : Int32} (hm : pr_Mo T m) (hI : mI σ) (hk1 : k1 < mrn σ) (hf : p2 < 0 ∨ 3 < p2) : pr_M g l 11 0 0 mX8_ticketsOf [.ref m, .int (nI k1), .int p2] T (rg_put I m 16 σ) L (pr_R (some (.int 0)) T (rg_put I m 16 (pr_up σ 0 6 (2 : Int32))) L) pr_no := by
  refine pr_ofG (by decide) rfl hl (Nat.le_of_ble_eq_true rfl) (fun X hA hX hXn hXt => ?_)
  subst hX
  show pr_G g X mX8_ticketsOf.2.2.1 _ 0 0 0 [.ref m, .int (nI k1), .int p2, .null, .null] [] T (rg_put I m 16 σ) L
  have hn5 := mI_n5 hI
  have hr4 := mI_nr4 hI
  have hl24 := mI_nl24 hI
  have hn12 := mI_nn12 hI
  refine pr_aload_n hA dX8_ticketsOf_0 rfl ?_
  refine pr_iload_n hA dX8_ticketsOf_1 rfl ?_
  have hv2 : mI σ := hI
  refine pr_callVi hA [.int (nI k1)] (c_nq_ok (m := m) (σ := σ) (pr_hl hA) hm hv2 (by omega)) v_X8_346 (mo_k0 hm) (by decide) rfl rfl rfl (by decide) (Nat.zero_le _) (Nat.zero_le _) rfl (Nat.le_of_ble_eq_true rfl) dX8_ticketsOf_2 ?_
  refine pr_if_ne hA 33 dX8_ticketsOf_5 (by decide) (fun c_5 => ?_) (fun c_5 => ?_)
  · exact (c_5 (by decide)).elim
  · refine pr_aload_n hA dX8_ticketsOf_8 rfl ?_
    refine pr_iload_n hA dX8_ticketsOf_9 rfl ?_
    refine pr_i2l hA dX8_ticketsOf_10 ?_
    refine pr_lconst hA 0 dX8_ticketsOf_11 (by decide) ?_
    refine pr_ldc2 hA kK_X8_356 dX8_ticketsOf_12 ?_
    refine pr_callSi hA [.long ((p2).toInt64), .long (0 : Int64), .long (3 : Int64)] (c_inE (m := m) (σ := (pr_up σ 0 6 (0 : Int32))) (v := 0) (pr_hl hA) hm (in_z0 hf (by decide) (by decide))) s_X8_80 rfl (by decide) (Nat.zero_le _) (Nat.zero_le _) rfl (Nat.le_of_ble_eq_true rfl) dX8_ticketsOf_15 ?_
    refine pr_if_ne hA 25 dX8_ticketsOf_18 (by decide) (fun c_18 => ?_) (fun c_18 => ?_)
    · exact (c_18 (by decide)).elim
    · refine pr_iconst hA (1) dX8_ticketsOf_21 (by decide) ?_
      refine pr_goto hA 26 dX8_ticketsOf_22 (by decide) ?_
      refine pr_iconst hA (2) dX8_ticketsOf_26 (by decide) ?_
      refine pr_callVi hA [.int (1 : Int32), .int (2 : Int32)] (c_tiE (m := m) (σ := (pr_up σ 0 6 (0 : Int32))) (pr_hl hA) hm (ti_1 pr_upe (by decide))) v_X8_301 (mo_k0 hm) (by decide) rfl rfl rfl (by decide) (Nat.zero_le _) (Nat.zero_le _) rfl (Nat.le_of_ble_eq_true rfl) dX8_ticketsOf_27 ?_
      refine pr_if_eq hA 35 dX8_ticketsOf_30 (by decide) (fun c_30 => ?_) (fun c_30 => ?_)
      · exact absurd c_30 (by decide)
      · refine pr_iconst hA (0) dX8_ticketsOf_33 (by decide) ?_
        exact pr_ireturn hA rfl rfl (Nat.zero_le _) (Nat.zero_le _) dX8_ticketsOf_34 ⟨rfl, rfl, (by simp only [pr_up_two]), rfl⟩

set_option maxRecDepth 100000 in
set_option maxHeartbeats 400000 in
theorem r_ticksForNew_0 {g : pr_C} {l : Launch} (hl : l.stackTraces = false) {T : pr_T} {I : pr_I} {L : pr_L} {m : Nat} {σ : pr_I} {p1 : Int32} {p2 : Int32} {p3 : Int32} (hm : pr_Mo T m) (hI : mI σ) (hf : ¬ vp_in p1 (mnn σ) ∨ ¬ vp_in p2 (mnn σ)) : pr_M g l 11 0 0 mX8_ticksForNew [.ref m, .int p1, .int p2, .int p3] T (rg_put I m 16 σ) L (pr_R (some (.int 0)) T (rg_put I m 16 (pr_up σ 0 6 (1 : Int32))) L) pr_no := by
  refine pr_ofG (by decide) rfl hl (Nat.le_of_ble_eq_true rfl) (fun X hA hX hXn hXt => ?_)
  subst hX
  show pr_G g X mX8_ticksForNew.2.2.1 _ 0 0 0 [.ref m, .int p1, .int p2, .int p3] [] T (rg_put I m 16 σ) L
  have hn5 := mI_n5 hI
  have hr4 := mI_nr4 hI
  have hl24 := mI_nl24 hI
  have hn12 := mI_nn12 hI
  refine pr_aload_n hA dX8_ticksForNew_0 rfl ?_
  refine pr_iload_n hA dX8_ticksForNew_1 rfl ?_
  refine pr_iload_n hA dX8_ticksForNew_2 rfl ?_
  have hv3 : mI σ := hI
  refine pr_callVi hA [.int p1, .int p2] (c_nn_bad (m := m) (σ := σ) (pr_hl hA) hm hv3 hf) v_X8_337 (mo_k0 hm) (by decide) rfl rfl rfl (by decide) (Nat.zero_le _) (Nat.zero_le _) rfl (Nat.le_of_ble_eq_true rfl) dX8_ticksForNew_3 ?_
  refine pr_if_ne hA 34 dX8_ticksForNew_6 (by decide) (fun c_6 => ?_) (fun c_6 => ?_)
  · refine pr_iconst hA (0) dX8_ticksForNew_34 (by decide) ?_
    exact pr_ireturn hA rfl rfl (Nat.zero_le _) (Nat.zero_le _) dX8_ticksForNew_35 ⟨rfl, rfl, rfl, rfl⟩
  · exact absurd c_6 (by decide)

set_option maxRecDepth 100000 in
set_option maxHeartbeats 400000 in
theorem r_ticksForNew_0e {g : pr_C} {l : Launch} (hl : l.stackTraces = false) {T : pr_T} {I : pr_I} {L : pr_L} {m : Nat} {σ : pr_I} {p1 : Int32} {p2 : Int32} {p3 : Int32} (hm : pr_Mo T m) (hI : mI σ) (hx : vp_in p1 (mnn σ)) (he : p1 = p2) : pr_M g l 11 0 0 mX8_ticksForNew [.ref m, .int p1, .int p2, .int p3] T (rg_put I m 16 σ) L (pr_R (some (.int 0)) T (rg_put I m 16 (pr_up σ 0 6 (2 : Int32))) L) pr_no := by
  refine pr_ofG (by decide) rfl hl (Nat.le_of_ble_eq_true rfl) (fun X hA hX hXn hXt => ?_)
  subst hX
  show pr_G g X mX8_ticksForNew.2.2.1 _ 0 0 0 [.ref m, .int p1, .int p2, .int p3] [] T (rg_put I m 16 σ) L
  have hn5 := mI_n5 hI
  have hr4 := mI_nr4 hI
  have hl24 := mI_nl24 hI
  have hn12 := mI_nn12 hI
  refine pr_aload_n hA dX8_ticksForNew_0 rfl ?_
  refine pr_iload_n hA dX8_ticksForNew_1 rfl ?_
  refine pr_iload_n hA dX8_ticksForNew_2 rfl ?_
  have hv3 : mI σ := hI
  refine pr_callVi hA [.int p1, .int p2] (c_nn_eq (m := m) (σ := σ) (pr_hl hA) hm hv3 hx he) v_X8_337 (mo_k0 hm) (by decide) rfl rfl rfl (by decide) (Nat.zero_le _) (Nat.zero_le _) rfl (Nat.le_of_ble_eq_true rfl) dX8_ticksForNew_3 ?_
  refine pr_if_ne hA 34 dX8_ticksForNew_6 (by decide) (fun c_6 => ?_) (fun c_6 => ?_)
  · refine pr_iconst hA (0) dX8_ticksForNew_34 (by decide) ?_
    exact pr_ireturn hA rfl rfl (Nat.zero_le _) (Nat.zero_le _) dX8_ticksForNew_35 ⟨rfl, rfl, rfl, rfl⟩
  · exact absurd c_6 (by decide)

set_option maxRecDepth 100000 in
set_option maxHeartbeats 400000 in
theorem r_ticksForNew_1 {g : pr_C} {l : Launch} (hl : l.stackTraces = false) {T : pr_T} {I : pr_I} {L : pr_L} {m : Nat} {σ : pr_I} {k1 : Nat} {k2 : Nat} {p3 : Int32} (hm : pr_Mo T m) (hI : mI σ) (hk1 : k1 < mnn σ) (hk2 : k2 < mnn σ) (hst : k1 ≠ k2) (hf : p3 < 1 ∨ 1000 < p3) : pr_M g l 11 0 0 mX8_ticksForNew [.ref m, .int (nI k1), .int (nI k2), .int p3] T (rg_put I m 16 σ) L (pr_R (some (.int 0)) T (rg_put I m 16 (pr_up σ 0 6 (2 : Int32))) L) pr_no := by
  refine pr_ofG (by decide) rfl hl (Nat.le_of_ble_eq_true rfl) (fun X hA hX hXn hXt => ?_)
  subst hX
  show pr_G g X mX8_ticksForNew.2.2.1 _ 0 0 0 [.ref m, .int (nI k1), .int (nI k2), .int p3] [] T (rg_put I m 16 σ) L
  have hn5 := mI_n5 hI
  have hr4 := mI_nr4 hI
  have hl24 := mI_nl24 hI
  have hn12 := mI_nn12 hI
  refine pr_aload_n hA dX8_ticksForNew_0 rfl ?_
  refine pr_iload_n hA dX8_ticksForNew_1 rfl ?_
  refine pr_iload_n hA dX8_ticksForNew_2 rfl ?_
  have hv3 : mI σ := hI
  refine pr_callVi hA [.int (nI k1), .int (nI k2)] (c_nn_ok (m := m) (σ := σ) (pr_hl hA) hm hv3 (by omega) (by omega) (by omega)) v_X8_337 (mo_k0 hm) (by decide) rfl rfl rfl (by decide) (Nat.zero_le _) (Nat.zero_le _) rfl (Nat.le_of_ble_eq_true rfl) dX8_ticksForNew_3 ?_
  refine pr_if_ne hA 34 dX8_ticksForNew_6 (by decide) (fun c_6 => ?_) (fun c_6 => ?_)
  · exact (c_6 (by decide)).elim
  · refine pr_aload_n hA dX8_ticksForNew_9 rfl ?_
    refine pr_iload_n hA dX8_ticksForNew_10 rfl ?_
    refine pr_i2l hA dX8_ticksForNew_11 ?_
    refine pr_lconst hA 1 dX8_ticksForNew_12 (by decide) ?_
    refine pr_ldc2 hA kK_X8_299 dX8_ticksForNew_13 ?_
    refine pr_callSi hA [.long ((p3).toInt64), .long (1 : Int64), .long (1000 : Int64)] (c_inE (m := m) (σ := (pr_up σ 0 6 (0 : Int32))) (v := 0) (pr_hl hA) hm (in_z0 hf (by decide) (by decide))) s_X8_80 rfl (by decide) (Nat.zero_le _) (Nat.zero_le _) rfl (Nat.le_of_ble_eq_true rfl) dX8_ticksForNew_16 ?_
    refine pr_if_ne hA 26 dX8_ticksForNew_19 (by decide) (fun c_19 => ?_) (fun c_19 => ?_)
    · exact (c_19 (by decide)).elim
    · refine pr_iconst hA (1) dX8_ticksForNew_22 (by decide) ?_
      refine pr_goto hA 27 dX8_ticksForNew_23 (by decide) ?_
      refine pr_iconst hA (2) dX8_ticksForNew_27 (by decide) ?_
      refine pr_callVi hA [.int (1 : Int32), .int (2 : Int32)] (c_tiE (m := m) (σ := (pr_up σ 0 6 (0 : Int32))) (pr_hl hA) hm (ti_1 pr_upe (by decide))) v_X8_301 (mo_k0 hm) (by decide) rfl rfl rfl (by decide) (Nat.zero_le _) (Nat.zero_le _) rfl (Nat.le_of_ble_eq_true rfl) dX8_ticksForNew_28 ?_
      refine pr_if_eq hA 36 dX8_ticksForNew_31 (by decide) (fun c_31 => ?_) (fun c_31 => ?_)
      · exact absurd c_31 (by decide)
      · refine pr_iconst hA (0) dX8_ticksForNew_34 (by decide) ?_
        exact pr_ireturn hA rfl rfl (Nat.zero_le _) (Nat.zero_le _) dX8_ticksForNew_35 ⟨rfl, rfl, (by simp only [pr_up_two]), rfl⟩

set_option maxRecDepth 100000 in
set_option maxHeartbeats 400000 in
theorem r_ticksUntilActive_0 {g : pr_C} {l : Launch} (hl : l.stackTraces = false) {T : pr_T} {I : pr_I} {L : pr_L} {m : Nat} {σ : pr_I} {p1 : Int32} (hm : pr_Mo T m) (hI : mI σ) (hf : ¬ vp_in p1 (mrn σ)) : pr_M g l 11 0 0 mX8_ticksUntilActive [.ref m, .int p1] T (rg_put I m 16 σ) L (pr_R (some (.int 0)) T (rg_put I m 16 (pr_up σ 0 6 (1 : Int32))) L) pr_no := by
  refine pr_ofG (by decide) rfl hl (Nat.le_of_ble_eq_true rfl) (fun X hA hX hXn hXt => ?_)
  subst hX
  show pr_G g X mX8_ticksUntilActive.2.2.1 _ 0 0 0 [.ref m, .int p1, .null] [] T (rg_put I m 16 σ) L
  have hn5 := mI_n5 hI
  have hr4 := mI_nr4 hI
  have hl24 := mI_nl24 hI
  have hn12 := mI_nn12 hI
  refine pr_aload_n hA dX8_ticksUntilActive_0 rfl ?_
  refine pr_iload_n hA dX8_ticksUntilActive_1 rfl ?_
  have hv2 : mI σ := hI
  refine pr_callVi hA [.int p1] (c_nq_bad (m := m) (σ := σ) (pr_hl hA) hm hv2 hf) v_X8_346 (mo_k0 hm) (by decide) rfl rfl rfl (by decide) (Nat.zero_le _) (Nat.zero_le _) rfl (Nat.le_of_ble_eq_true rfl) dX8_ticksUntilActive_2 ?_
  refine pr_if_eq hA 10 dX8_ticksUntilActive_5 (by decide) (fun c_5 => ?_) (fun c_5 => ?_)
  · exact absurd c_5 (by decide)
  · refine pr_iconst hA (0) dX8_ticksUntilActive_8 (by decide) ?_
    exact pr_ireturn hA rfl rfl (Nat.zero_le _) (Nat.zero_le _) dX8_ticksUntilActive_9 ⟨rfl, rfl, rfl, rfl⟩

set_option maxRecDepth 100000 in
set_option maxHeartbeats 400000 in
theorem r_ticksUntilAvailable_0 {g : pr_C} {l : Launch} (hl : l.stackTraces = false) {T : pr_T} {I : pr_I} {L : pr_L} {m : Nat} {σ : pr_I} {p1 : Int32} {p2 : Int32} (hm : pr_Mo T m) (hI : mI σ) (hf : ¬ vp_in p1 (mln σ)) : pr_M g l 11 0 0 mX8_ticksUntilAvailable [.ref m, .int p1, .int p2] T (rg_put I m 16 σ) L (pr_R (some (.int 0)) T (rg_put I m 16 (pr_up σ 0 6 (1 : Int32))) L) pr_no := by
  refine pr_ofG (by decide) rfl hl (Nat.le_of_ble_eq_true rfl) (fun X hA hX hXn hXt => ?_)
  subst hX
  show pr_G g X mX8_ticksUntilAvailable.2.2.1 _ 0 0 0 [.ref m, .int p1, .int p2, .null] [] T (rg_put I m 16 σ) L
  have hn5 := mI_n5 hI
  have hr4 := mI_nr4 hI
  have hl24 := mI_nl24 hI
  have hn12 := mI_nn12 hI
  refine pr_aload_n hA dX8_ticksUntilAvailable_0 rfl ?_
  refine pr_iload_n hA dX8_ticksUntilAvailable_1 rfl ?_
  have hv2 : mI σ := hI
  refine pr_callVi hA [.int p1] (c_nl_bad (m := m) (σ := σ) (pr_hl hA) hm hv2 hf) v_X8_315 (mo_k0 hm) (by decide) rfl rfl rfl (by decide) (Nat.zero_le _) (Nat.zero_le _) rfl (Nat.le_of_ble_eq_true rfl) dX8_ticksUntilAvailable_2 ?_
  refine pr_if_ne hA 33 dX8_ticksUntilAvailable_5 (by decide) (fun c_5 => ?_) (fun c_5 => ?_)
  · refine pr_iconst hA (0) dX8_ticksUntilAvailable_33 (by decide) ?_
    exact pr_ireturn hA rfl rfl (Nat.zero_le _) (Nat.zero_le _) dX8_ticksUntilAvailable_34 ⟨rfl, rfl, rfl, rfl⟩
  · exact absurd c_5 (by decide)

set_option maxRecDepth 100000 in
set_option maxHeartbeats 400000 in
theorem r_ticksUntilAvailable_1 {g : pr_C} {l : Launch} (hl : l.stackTraces = false) {T : pr_T} {I : pr_I} {L : pr_L} {m : Nat} {σ : pr_I} {k1 : Nat} {p2 : Int32} (hm : pr_Mo T m) (hI : mI σ) (hk1 : k1 < mln σ) (hf : p2 < 0 ∨ 1000 < p2) : pr_M g l 11 0 0 mX8_ticksUntilAvailable [.ref m, .int (nI k1), .int p2] T (rg_put I m 16 σ) L (pr_R (some (.int 0)) T (rg_put I m 16 (pr_up σ 0 6 (2 : Int32))) L) pr_no := by
  refine pr_ofG (by decide) rfl hl (Nat.le_of_ble_eq_true rfl) (fun X hA hX hXn hXt => ?_)
  subst hX
  show pr_G g X mX8_ticksUntilAvailable.2.2.1 _ 0 0 0 [.ref m, .int (nI k1), .int p2, .null] [] T (rg_put I m 16 σ) L
  have hn5 := mI_n5 hI
  have hr4 := mI_nr4 hI
  have hl24 := mI_nl24 hI
  have hn12 := mI_nn12 hI
  refine pr_aload_n hA dX8_ticksUntilAvailable_0 rfl ?_
  refine pr_iload_n hA dX8_ticksUntilAvailable_1 rfl ?_
  have hv2 : mI σ := hI
  refine pr_callVi hA [.int (nI k1)] (c_nl_ok (m := m) (σ := σ) (pr_hl hA) hm hv2 (by omega)) v_X8_315 (mo_k0 hm) (by decide) rfl rfl rfl (by decide) (Nat.zero_le _) (Nat.zero_le _) rfl (Nat.le_of_ble_eq_true rfl) dX8_ticksUntilAvailable_2 ?_
  refine pr_if_ne hA 33 dX8_ticksUntilAvailable_5 (by decide) (fun c_5 => ?_) (fun c_5 => ?_)
  · exact (c_5 (by decide)).elim
  · refine pr_aload_n hA dX8_ticksUntilAvailable_8 rfl ?_
    refine pr_iload_n hA dX8_ticksUntilAvailable_9 rfl ?_
    refine pr_i2l hA dX8_ticksUntilAvailable_10 ?_
    refine pr_lconst hA 0 dX8_ticksUntilAvailable_11 (by decide) ?_
    refine pr_ldc2 hA kK_X8_299 dX8_ticksUntilAvailable_12 ?_
    refine pr_callSi hA [.long ((p2).toInt64), .long (0 : Int64), .long (1000 : Int64)] (c_inE (m := m) (σ := (pr_up σ 0 6 (0 : Int32))) (v := 0) (pr_hl hA) hm (in_z0 hf (by decide) (by decide))) s_X8_80 rfl (by decide) (Nat.zero_le _) (Nat.zero_le _) rfl (Nat.le_of_ble_eq_true rfl) dX8_ticksUntilAvailable_15 ?_
    refine pr_if_ne hA 25 dX8_ticksUntilAvailable_18 (by decide) (fun c_18 => ?_) (fun c_18 => ?_)
    · exact (c_18 (by decide)).elim
    · refine pr_iconst hA (1) dX8_ticksUntilAvailable_21 (by decide) ?_
      refine pr_goto hA 26 dX8_ticksUntilAvailable_22 (by decide) ?_
      refine pr_iconst hA (2) dX8_ticksUntilAvailable_26 (by decide) ?_
      refine pr_callVi hA [.int (1 : Int32), .int (2 : Int32)] (c_tiE (m := m) (σ := (pr_up σ 0 6 (0 : Int32))) (pr_hl hA) hm (ti_1 pr_upe (by decide))) v_X8_301 (mo_k0 hm) (by decide) rfl rfl rfl (by decide) (Nat.zero_le _) (Nat.zero_le _) rfl (Nat.le_of_ble_eq_true rfl) dX8_ticksUntilAvailable_27 ?_
      refine pr_if_eq hA 35 dX8_ticksUntilAvailable_30 (by decide) (fun c_30 => ?_) (fun c_30 => ?_)
      · exact absurd c_30 (by decide)
      · refine pr_iconst hA (0) dX8_ticksUntilAvailable_33 (by decide) ?_
        exact pr_ireturn hA rfl rfl (Nat.zero_le _) (Nat.zero_le _) dX8_ticksUntilAvailable_34 ⟨rfl, rfl, (by simp only [pr_up_two]), rfl⟩

set_option maxRecDepth 100000 in
set_option maxHeartbeats 400000 in
theorem r_widest_0 {g : pr_C} {l : Launch} (hl : l.stackTraces = false) {T : pr_T} {I : pr_I} {L : pr_L} {m : Nat} {σ : pr_I} {p1 : Int32} {p2 : Int32} (hm : pr_Mo T m) (hI : mI σ) (hf : ¬ vp_in p1 (mnn σ) ∨ ¬ vp_in p2 (mnn σ)) : pr_M g l 11 0 0 mX8_widest [.ref m, .int p1, .int p2] T (rg_put I m 16 σ) L (pr_R (some (.int 0)) T (rg_put I m 16 (pr_up σ 0 6 (1 : Int32))) L) pr_no := by
  refine pr_ofG (by decide) rfl hl (Nat.le_of_ble_eq_true rfl) (fun X hA hX hXn hXt => ?_)
  subst hX
  show pr_G g X mX8_widest.2.2.1 _ 0 0 0 [.ref m, .int p1, .int p2, .null, .null, .null] [] T (rg_put I m 16 σ) L
  have hn5 := mI_n5 hI
  have hr4 := mI_nr4 hI
  have hl24 := mI_nl24 hI
  have hn12 := mI_nn12 hI
  refine pr_aload_n hA dX8_widest_0 rfl ?_
  refine pr_iload_n hA dX8_widest_1 rfl ?_
  refine pr_iload_n hA dX8_widest_2 rfl ?_
  have hv3 : mI σ := hI
  refine pr_callVi hA [.int p1, .int p2] (c_nn_bad (m := m) (σ := σ) (pr_hl hA) hm hv3 hf) v_X8_337 (mo_k0 hm) (by decide) rfl rfl rfl (by decide) (Nat.zero_le _) (Nat.zero_le _) rfl (Nat.le_of_ble_eq_true rfl) dX8_widest_3 ?_
  refine pr_if_eq hA 11 dX8_widest_6 (by decide) (fun c_6 => ?_) (fun c_6 => ?_)
  · exact absurd c_6 (by decide)
  · refine pr_iconst hA (0) dX8_widest_9 (by decide) ?_
    exact pr_ireturn hA rfl rfl (Nat.zero_le _) (Nat.zero_le _) dX8_widest_10 ⟨rfl, rfl, rfl, rfl⟩

set_option maxRecDepth 100000 in
set_option maxHeartbeats 400000 in
theorem r_widest_0e {g : pr_C} {l : Launch} (hl : l.stackTraces = false) {T : pr_T} {I : pr_I} {L : pr_L} {m : Nat} {σ : pr_I} {p1 : Int32} {p2 : Int32} (hm : pr_Mo T m) (hI : mI σ) (hx : vp_in p1 (mnn σ)) (he : p1 = p2) : pr_M g l 11 0 0 mX8_widest [.ref m, .int p1, .int p2] T (rg_put I m 16 σ) L (pr_R (some (.int 0)) T (rg_put I m 16 (pr_up σ 0 6 (2 : Int32))) L) pr_no := by
  refine pr_ofG (by decide) rfl hl (Nat.le_of_ble_eq_true rfl) (fun X hA hX hXn hXt => ?_)
  subst hX
  show pr_G g X mX8_widest.2.2.1 _ 0 0 0 [.ref m, .int p1, .int p2, .null, .null, .null] [] T (rg_put I m 16 σ) L
  have hn5 := mI_n5 hI
  have hr4 := mI_nr4 hI
  have hl24 := mI_nl24 hI
  have hn12 := mI_nn12 hI
  refine pr_aload_n hA dX8_widest_0 rfl ?_
  refine pr_iload_n hA dX8_widest_1 rfl ?_
  refine pr_iload_n hA dX8_widest_2 rfl ?_
  have hv3 : mI σ := hI
  refine pr_callVi hA [.int p1, .int p2] (c_nn_eq (m := m) (σ := σ) (pr_hl hA) hm hv3 hx he) v_X8_337 (mo_k0 hm) (by decide) rfl rfl rfl (by decide) (Nat.zero_le _) (Nat.zero_le _) rfl (Nat.le_of_ble_eq_true rfl) dX8_widest_3 ?_
  refine pr_if_eq hA 11 dX8_widest_6 (by decide) (fun c_6 => ?_) (fun c_6 => ?_)
  · exact absurd c_6 (by decide)
  · refine pr_iconst hA (0) dX8_widest_9 (by decide) ?_
    exact pr_ireturn hA rfl rfl (Nat.zero_le _) (Nat.zero_le _) dX8_widest_10 ⟨rfl, rfl, rfl, rfl⟩

