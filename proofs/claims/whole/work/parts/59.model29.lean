/-! THE REFERENCE'S FACE: the text -/
theorem mW_pos {j B : Nat} (h : mW j = some B) : 0 < B ∧ B < 2 ^ 31 ∧ ¬ (1 ≤ j ∧ j ≤ 5) := by
  unfold mW mS mN mL mR mT at h
  (repeat' split at h) <;> first | (cases h; omega) | cases h
theorem bg_in {h : Nat → Int32} : ∀ k B, mW k = some B → vp_in (bg_row h k) B := fun k B q => by
  obtain ⟨h1, h2, h3⟩ := mW_pos q
  have h4 := mW_lt q
  unfold bg_row
  rw [if_neg (by omega), if_neg (by omega), if_neg (by omega), if_neg (by omega), if_neg (by omega), if_pos h4]
  exact nI_vin (k := 0) h1 h2
theorem mI.bg {σ : pr_I} {b : Nat} {g : Nat → Int32} (h : mI σ) (h1 : 0 < b) (h2 : b < 6) : mI (pr_row σ b (bg_row g)) := mI.row h (fun k B q => bg_in k B (mB_row h1 h2 q))
theorem c_beginsE {g : pr_C} {l : Launch} (hl : l.stackTraces = false) {T : pr_T} {I I' : pr_I} {L : pr_L} {a : Nat} {f : Nat → Int32} (ha : T.2.1 a = (20, 5384)) (hf : I a = f) (hu : pr_row I a (bg_row f) = I') : pr_M g l 1 0 0 mX8_begins [.ref a] T I L (pr_R none T I' L) pr_no := by
  subst hf; subst hu; exact c_begins hl ha
theorem hrk {σ : pr_I} {n : Nat} (hI : mI σ) (hn : σ 0 8 = nI n) : rk n (pr_up (pr_up (pr_row (pr_up σ 0 6 (0 : Int32)) 3 (bg_row (σ 3))) 0 9 (0 : Int32)) 0 12 (0 : Int32)) := ⟨(pr_upk (by decide)).trans ((pr_upk (by decide)).trans ((pr_rwv (by decide)).trans ((pr_upk (by decide)).trans hn))), pr_upe, mI.upn (mI.upn (mI.bg (mI.upn hI rfl) (by decide) (by decide)) rfl) rfl⟩
theorem hpt0 {σ : pr_I} : m_pt (pr_up (pr_up (pr_row (pr_up σ 0 6 (0 : Int32)) 3 (bg_row (σ 3))) 0 9 (0 : Int32)) 0 12 (0 : Int32)) = 0 := by
  unfold m_pt
  rw [show (pr_up (pr_up (pr_row (pr_up σ 0 6 (0 : Int32)) 3 (bg_row (σ 3))) 0 9 (0 : Int32)) 0 12 (0 : Int32)) 0 9 = (0 : Int32) from (pr_upk (by decide)).trans pr_upe]; rfl
noncomputable def mf_load_r (σ : pr_I) (n : Nat) : Int32 := (if (m_ra_r (pr_up (pr_up (pr_row (pr_up σ 0 6 (0 : Int32)) 3 (bg_row (σ 3))) 0 9 (0 : Int32)) 0 12 (0 : Int32)) n) = 0 then (((-100) : Int32) - ((m_ra (pr_up (pr_up (pr_row (pr_up σ 0 6 (0 : Int32)) 3 (bg_row (σ 3))) 0 9 (0 : Int32)) 0 12 (0 : Int32)) n) 0 11)) else ((cp_row ((m_ra (pr_up (pr_up (pr_row (pr_up σ 0 6 (0 : Int32)) 3 (bg_row (σ 3))) 0 9 (0 : Int32)) 0 12 (0 : Int32)) n) 3) (σ 1) 5384) 7))
noncomputable def mf_load (σ : pr_I) (n : Nat) : pr_I := (if (m_ra_r (pr_up (pr_up (pr_row (pr_up σ 0 6 (0 : Int32)) 3 (bg_row (σ 3))) 0 9 (0 : Int32)) 0 12 (0 : Int32)) n) = 0 then (pr_up (pr_up (m_ra (pr_up (pr_up (pr_row (pr_up σ 0 6 (0 : Int32)) 3 (bg_row (σ 3))) 0 9 (0 : Int32)) 0 12 (0 : Int32)) n) 0 8 (0 : Int32)) 0 13 ((m_ra (pr_up (pr_up (pr_row (pr_up σ 0 6 (0 : Int32)) 3 (bg_row (σ 3))) 0 9 (0 : Int32)) 0 12 (0 : Int32)) n) 0 12)) else (pr_row (pr_up (pr_up (m_ra (pr_up (pr_up (pr_row (pr_up σ 0 6 (0 : Int32)) 3 (bg_row (σ 3))) 0 9 (0 : Int32)) 0 12 (0 : Int32)) n) 0 8 (0 : Int32)) 0 13 ((m_ra (pr_up (pr_up (pr_row (pr_up σ 0 6 (0 : Int32)) 3 (bg_row (σ 3))) 0 9 (0 : Int32)) 0 12 (0 : Int32)) n) 0 12)) 1 (cp_row ((m_ra (pr_up (pr_up (pr_row (pr_up σ 0 6 (0 : Int32)) 3 (bg_row (σ 3))) 0 9 (0 : Int32)) 0 12 (0 : Int32)) n) 3) (σ 1) 5384)))
set_option maxRecDepth 100000 in
set_option maxHeartbeats 400000 in
theorem c_mf_load {g : pr_C} {l : Launch} (hl : l.stackTraces = false) {T : pr_T} {I : pr_I} {L : pr_L} {m : Nat} {σ : pr_I} {n : Nat} (hm : pr_Mo T m) (hI : mI σ) (hn : σ 0 8 = nI n) (hn7 : n ≤ 700) : pr_M g l 13 0 0 mX8_load [.ref m] T (rg_put I m 16 σ) L (pr_R (some (.int (mf_load_r σ n))) T (rg_put I m 16 (mf_load σ n)) L) pr_no := by
  refine pr_ofG (by decide) rfl hl (Nat.le_of_ble_eq_true rfl) (fun X hA hX hXn hXt => ?_)
  subst hX
  show pr_G g X mX8_load.2.2.1 _ 0 0 0 [.ref m, .null] [] T (rg_put I m 16 σ) L
  have hn5 := mI_n5 hI
  have hr4 := mI_nr4 hI
  have hl24 := mI_nl24 hI
  have hn12 := mI_nn12 hI
  refine pr_aload_n hA dX8_load_0 rfl ?_
  refine pr_iconst hA (0) dX8_load_1 (by decide) ?_
  refine pr_putE (I' := (rg_put I m 16 (pr_up σ 0 6 (0 : Int32)))) hA f_X8_60 rfl (mo_k0 hm) (rg_up0 (by decide)) dX8_load_2 ?_
  refine pr_aload_n hA dX8_load_5 rfl ?_
  refine pr_getR hA f_X8_16 rfl (mo_k0 hm) (mo_f0_2 hm) dX8_load_6 ?_
  refine pr_callSv hA [.ref (m + 3)] (c_beginsE (pr_hl hA) (mo_k3 hm) ((rg_row (by decide)).trans (pr_up_ne (by decide))) (rg_put_row (by decide))) s_X8_56 rfl (by decide) (Nat.zero_le _) (Nat.zero_le _) rfl (Nat.le_of_ble_eq_true rfl) dX8_load_9 ?_
  refine pr_aload_n hA dX8_load_12 rfl ?_
  refine pr_iconst hA (0) dX8_load_13 (by decide) ?_
  refine pr_putE (I' := (rg_put I m 16 (pr_up (pr_row (pr_up σ 0 6 (0 : Int32)) 3 (bg_row (σ 3))) 0 9 (0 : Int32)))) hA f_X8_88 rfl (mo_k0 hm) (rg_up0 (by decide)) dX8_load_14 ?_
  refine pr_aload_n hA dX8_load_17 rfl ?_
  refine pr_iconst hA (0) dX8_load_18 (by decide) ?_
  refine pr_putE (I' := (rg_put I m 16 (pr_up (pr_up (pr_row (pr_up σ 0 6 (0 : Int32)) 3 (bg_row (σ 3))) 0 9 (0 : Int32)) 0 12 (0 : Int32)))) hA f_X8_94 rfl (mo_k0 hm) (rg_up0 (by decide)) dX8_load_19 ?_
  refine pr_aload_n hA dX8_load_22 rfl ?_
  refine pr_callVi hA [] (c_m_ra (m := m) (σ := (pr_up (pr_up (pr_row (pr_up σ 0 6 (0 : Int32)) 3 (bg_row (σ 3))) 0 9 (0 : Int32)) 0 12 (0 : Int32))) (n := n) (pr_hl hA) hm (hrk (n := n) hI hn) hn7 (by rw [hpt0]; exact (pr_upk (by decide)).trans pr_upe) (by rw [hpt0]; exact Nat.zero_le _)) v_X8_190 (mo_k0 hm) (by decide) rfl rfl rfl (by decide) (Nat.zero_le _) (Nat.zero_le _) rfl (Nat.le_of_ble_eq_true rfl) dX8_load_23 ?_
  refine pr_istore_n (ls' := [_, _]) hA dX8_load_26 (by decide) rfl ?_
  refine pr_aload_n hA dX8_load_27 rfl ?_
  refine pr_iconst hA (0) dX8_load_28 (by decide) ?_
  refine pr_putE (I' := (rg_put I m 16 (pr_up (m_ra (pr_up (pr_up (pr_row (pr_up σ 0 6 (0 : Int32)) 3 (bg_row (σ 3))) 0 9 (0 : Int32)) 0 12 (0 : Int32)) n) 0 8 (0 : Int32)))) hA f_X8_66 rfl (mo_k0 hm) (rg_up0 (by decide)) dX8_load_29 ?_
  refine pr_aload_n hA dX8_load_32 rfl ?_
  refine pr_aload_n hA dX8_load_33 rfl ?_
  refine pr_getE (v := ((m_ra (pr_up (pr_up (pr_row (pr_up σ 0 6 (0 : Int32)) 3 (bg_row (σ 3))) 0 9 (0 : Int32)) 0 12 (0 : Int32)) n) 0 12)) hA f_X8_94 rfl (mo_k0 hm) ((rg_val0 (by decide)).trans (pr_upk (by decide))) dX8_load_34 ?_
  refine pr_putE (I' := (rg_put I m 16 (pr_up (pr_up (m_ra (pr_up (pr_up (pr_row (pr_up σ 0 6 (0 : Int32)) 3 (bg_row (σ 3))) 0 9 (0 : Int32)) 0 12 (0 : Int32)) n) 0 8 (0 : Int32)) 0 13 ((m_ra (pr_up (pr_up (pr_row (pr_up σ 0 6 (0 : Int32)) 3 (bg_row (σ 3))) 0 9 (0 : Int32)) 0 12 (0 : Int32)) n) 0 12)))) hA f_X8_69 rfl (mo_k0 hm) (rg_up0 (by decide)) dX8_load_37 ?_
  refine pr_iload_n hA dX8_load_40 rfl ?_
  refine pr_if_ne hA 52 dX8_load_41 (by decide) (fun c_41 => ?_) (fun c_41 => ?_)
  · refine pr_aload_n hA dX8_load_52 rfl ?_
    refine pr_getR hA f_X8_16 rfl (mo_k0 hm) (mo_f0_2 hm) dX8_load_53 ?_
    refine pr_aload_n hA dX8_load_56 rfl ?_
    refine pr_getR hA f_X8_9 rfl (mo_k0 hm) (mo_f0_0 hm) dX8_load_57 ?_
    refine pr_callSv hA [.ref (m + 3), .ref (m + 1)] (c_copiesE (pr_hl hA) (mo_k3 hm) (mo_k1 hm) (by omega) ((rg_row (by decide)).trans ((pr_up_ne (by decide)).trans (pr_up_ne (by decide)))) ((rg_row (by decide)).trans ((pr_up_ne (by decide)).trans ((pr_up_ne (by decide)).trans ((fr_m_ra (by decide)).trans ((pr_up_ne (by decide)).trans ((pr_up_ne (by decide)).trans ((pr_row_ne (by decide)).trans (pr_up_ne (by decide))))))))) (rg_put_row (by decide))) s_X8_193 rfl (by decide) (Nat.zero_le _) (Nat.zero_le _) rfl (Nat.le_of_ble_eq_true rfl) dX8_load_60 ?_
    refine pr_aload_n hA dX8_load_63 rfl ?_
    refine pr_getR hA f_X8_9 rfl (mo_k0 hm) (mo_f0_0 hm) dX8_load_64 ?_
    refine pr_bipush hA (nI 7) dX8_load_67 (by decide) ?_
    refine pr_ialdM (v := ((cp_row ((m_ra (pr_up (pr_up (pr_row (pr_up σ 0 6 (0 : Int32)) 3 (bg_row (σ 3))) 0 9 (0 : Int32)) 0 12 (0 : Int32)) n) 3) (σ 1) 5384) 7)) hA (mo_k1 hm) (by omega) (by omega) ((rg_val (by decide)).trans pr_rwe) dX8_load_69 ?_
    exact pr_ireturn hA rfl rfl (Nat.zero_le _) (Nat.zero_le _) dX8_load_70 ⟨(by simp only [mf_load_r, if_neg c_41]), rfl, (by simp only [mf_load, if_neg c_41]), rfl⟩
  · refine pr_bipush hA ((-100)) dX8_load_44 (by decide) ?_
    refine pr_aload_n hA dX8_load_46 rfl ?_
    refine pr_getE (v := ((m_ra (pr_up (pr_up (pr_row (pr_up σ 0 6 (0 : Int32)) 3 (bg_row (σ 3))) 0 9 (0 : Int32)) 0 12 (0 : Int32)) n) 0 11)) hA f_X8_97 rfl (mo_k0 hm) ((rg_val0 (by decide)).trans ((pr_upk (by decide)).trans (pr_upk (by decide)))) dX8_load_47 ?_
    refine pr_isub hA dX8_load_50 ?_
    exact pr_ireturn hA rfl rfl (Nat.zero_le _) (Nat.zero_le _) dX8_load_51 ⟨(by simp only [mf_load_r, if_pos c_41]), rfl, (by simp only [mf_load, if_pos c_41]), rfl⟩

theorem fr_mf_load {σ : pr_I} {n : Nat} {o : Nat} (hms : ∀ m ∈ ([0, 1, 3] : List Nat), o ≠ m) : mf_load σ n o = σ o := by
  unfold mf_load
  simp only [List.mem_cons, List.not_mem_nil, or_false, forall_eq_or_imp, forall_eq] at hms
  by_cases c_41 : (m_ra_r (pr_up (pr_up (pr_row (pr_up σ 0 6 (0 : Int32)) 3 (bg_row (σ 3))) 0 9 (0 : Int32)) 0 12 (0 : Int32)) n) = 0
  · refine (congrFun (if_pos c_41) o).trans ?_
    rw [pr_up_ne (by omega), pr_up_ne (by omega), fr_m_ra (by simp only [List.mem_cons, List.not_mem_nil, or_false, forall_eq_or_imp, forall_eq]; omega), pr_up_ne (by omega), pr_up_ne (by omega), pr_row_ne (by omega), pr_up_ne (by omega)]
  · refine (congrFun (if_neg c_41) o).trans ?_
    rw [pr_row_ne (by omega), pr_up_ne (by omega), pr_up_ne (by omega), fr_m_ra (by simp only [List.mem_cons, List.not_mem_nil, or_false, forall_eq_or_imp, forall_eq]; omega), pr_up_ne (by omega), pr_up_ne (by omega), pr_row_ne (by omega), pr_up_ne (by omega)]

noncomputable def mf_loadError_r (σ : pr_I) : Int32 := (σ 0 13)
noncomputable def mf_loadError (σ : pr_I) : pr_I := (pr_up σ 0 6 (0 : Int32))
set_option maxRecDepth 100000 in
set_option maxHeartbeats 400000 in
theorem c_mf_loadError {g : pr_C} {l : Launch} (hl : l.stackTraces = false) {T : pr_T} {I : pr_I} {L : pr_L} {m : Nat} {σ : pr_I}  (hm : pr_Mo T m) (hI : mI σ) : pr_M g l 11 0 0 mX8_loadError [.ref m] T (rg_put I m 16 σ) L (pr_R (some (.int (mf_loadError_r σ))) T (rg_put I m 16 (mf_loadError σ)) L) pr_no := by
  refine pr_ofG (by decide) rfl hl (Nat.le_of_ble_eq_true rfl) (fun X hA hX hXn hXt => ?_)
  subst hX
  show pr_G g X mX8_loadError.2.2.1 _ 0 0 0 [.ref m] [] T (rg_put I m 16 σ) L
  have hn5 := mI_n5 hI
  have hr4 := mI_nr4 hI
  have hl24 := mI_nl24 hI
  have hn12 := mI_nn12 hI
  refine pr_aload_n hA dX8_loadError_0 rfl ?_
  refine pr_iconst hA (0) dX8_loadError_1 (by decide) ?_
  refine pr_putE (I' := (rg_put I m 16 (pr_up σ 0 6 (0 : Int32)))) hA f_X8_60 rfl (mo_k0 hm) (rg_up0 (by decide)) dX8_loadError_2 ?_
  refine pr_aload_n hA dX8_loadError_5 rfl ?_
  refine pr_getE (v := (σ 0 13)) hA f_X8_69 rfl (mo_k0 hm) ((rg_val0 (by decide)).trans (pr_upk (by decide))) dX8_loadError_6 ?_
  exact pr_ireturn hA rfl rfl (Nat.zero_le _) (Nat.zero_le _) dX8_loadError_9 ⟨rfl, rfl, rfl, rfl⟩

theorem fr_mf_loadError {σ : pr_I}  {o : Nat} (hms : ∀ m ∈ ([0] : List Nat), o ≠ m) : mf_loadError σ o = σ o := by
  unfold mf_loadError
  simp only [List.mem_cons, List.not_mem_nil, or_false, forall_eq_or_imp, forall_eq] at hms
  rw [pr_up_ne (by omega)]

theorem nm_in {σ : pr_I} {z : Int32} {k : Nat} (hI : mI σ) (hk : k < 12) (h : ¬ m_in_r (pr_up σ 0 6 0) z.toInt64 0 (σ 1 (12 + 7 * k) - 1).toInt64 = 0) : vp_in z 6 := pl_in2 (by decide) (hI 1 (12 + 7 * k) 7 ((mW_node (k := k) (c := 0) hk (by decide)).trans rfl)) h
noncomputable def mf_nameLetter_r (σ : pr_I) (k : Nat) (z : Int32) : Int32 := (if (m_in_r (pr_up σ 0 6 (0 : Int32)) ((z).toInt64) (0 : Int64) ((((σ 1 (12 + 7 * k)) - (1 : Int32))).toInt64)) = 0 then ((-1) : Int32) else (σ 1 (((12 + 7 * k) + 1) + z.toNatClampNeg)))
noncomputable def mf_nameLetter (σ : pr_I) (k : Nat) (z : Int32) : pr_I := (if (m_in_r (pr_up σ 0 6 (0 : Int32)) ((z).toInt64) (0 : Int64) ((((σ 1 (12 + 7 * k)) - (1 : Int32))).toInt64)) = 0 then (pr_up σ 0 6 (0 : Int32)) else (pr_up σ 0 6 (0 : Int32)))
set_option maxRecDepth 100000 in
set_option maxHeartbeats 400000 in
theorem c_mf_nameLetter {g : pr_C} {l : Launch} (hl : l.stackTraces = false) {T : pr_T} {I : pr_I} {L : pr_L} {m : Nat} {σ : pr_I} {k : Nat} {z : Int32} (hm : pr_Mo T m) (hI : mI σ) (hk : k < mnn σ) : pr_M g l 11 0 0 mX8_nameLetter [.ref m, .int (nI k), .int z] T (rg_put I m 16 σ) L (pr_R (some (.int (mf_nameLetter_r σ k z))) T (rg_put I m 16 (mf_nameLetter σ k z)) L) pr_no := by
  refine pr_ofG (by decide) rfl hl (Nat.le_of_ble_eq_true rfl) (fun X hA hX hXn hXt => ?_)
  subst hX
  show pr_G g X mX8_nameLetter.2.2.1 _ 0 0 0 [.ref m, .int (nI k), .int z, .null] [] T (rg_put I m 16 σ) L
  have hn5 := mI_n5 hI
  have hr4 := mI_nr4 hI
  have hl24 := mI_nl24 hI
  have hn12 := mI_nn12 hI
  refine pr_aload_n hA dX8_nameLetter_0 rfl ?_
  refine pr_iconst hA (0) dX8_nameLetter_1 (by decide) ?_
  refine pr_putE (I' := (rg_put I m 16 (pr_up σ 0 6 (0 : Int32)))) hA f_X8_60 rfl (mo_k0 hm) (rg_up0 (by decide)) dX8_nameLetter_2 ?_
  refine pr_aload_n hA dX8_nameLetter_5 rfl ?_
  refine pr_aload_n hA dX8_nameLetter_6 rfl ?_
  refine pr_iload_n hA dX8_nameLetter_7 rfl ?_
  have hv8 : mI (pr_up σ 0 6 (0 : Int32)) := (mI.upn hI rfl)
  have hq8 : mnn (pr_up σ 0 6 (0 : Int32)) = mnn σ := rfl
  refine pr_callVi hA [.int (nI k)] (c_nd_ok (m := m) (σ := (pr_up σ 0 6 (0 : Int32))) (pr_hl hA) hm hv8 (by omega)) v_X8_312 (mo_k0 hm) (by decide) rfl rfl rfl (by decide) (Nat.zero_le _) (Nat.zero_le _) rfl (Nat.le_of_ble_eq_true rfl) dX8_nameLetter_8 ?_
  refine pr_if_ne hA 18 dX8_nameLetter_11 (by decide) (fun c_11 => ?_) (fun c_11 => ?_)
  · refine pr_iconst hA (0) dX8_nameLetter_18 (by decide) ?_
    refine pr_iconst hA (1) dX8_nameLetter_19 (by decide) ?_
    refine pr_callVi hA [.int (0 : Int32), .int (1 : Int32)] (c_tiE (m := m) (σ := (pr_up σ 0 6 (0 : Int32))) (pr_hl hA) hm (ti_0 pr_upe)) v_X8_301 (mo_k0 hm) (by decide) rfl rfl rfl (by decide) (Nat.zero_le _) (Nat.zero_le _) rfl (Nat.le_of_ble_eq_true rfl) dX8_nameLetter_20 ?_
    refine pr_if_eq hA 28 dX8_nameLetter_23 (by decide) (fun c_23 => ?_) (fun c_23 => ?_)
    · refine pr_bipush hA (nI 12) dX8_nameLetter_28 (by decide) ?_
      refine pr_bipush hA (nI 7) dX8_nameLetter_30 (by decide) ?_
      refine pr_iload_n hA dX8_nameLetter_32 rfl ?_
      refine pr_imul hA dX8_nameLetter_33 ?_
      refine pr_iadd hA dX8_nameLetter_34 ?_
      rw [show ((nI 12) + ((nI 7) * (nI k))) = (nI (12 + 7 * k)) from (nI_lin2 12 7 k)]
      refine pr_istore_n (ls' := [_, _, _, _]) hA dX8_nameLetter_35 (by decide) rfl ?_
      refine pr_iload_n hA dX8_nameLetter_36 rfl ?_
      refine pr_i2l hA dX8_nameLetter_37 ?_
      refine pr_lconst hA 0 dX8_nameLetter_38 (by decide) ?_
      refine pr_aload_n hA dX8_nameLetter_39 rfl ?_
      refine pr_getR hA f_X8_9 rfl (mo_k0 hm) (mo_f0_0 hm) dX8_nameLetter_40 ?_
      refine pr_iload_n hA dX8_nameLetter_43 rfl ?_
      refine pr_ialdM (v := (σ 1 (12 + 7 * k))) hA (mo_k1 hm) (by omega) (by omega) ((rg_val (by decide)).trans (pr_upv (by decide))) dX8_nameLetter_44 ?_
      refine pr_iconst hA (1) dX8_nameLetter_45 (by decide) ?_
      refine pr_isub hA dX8_nameLetter_46 ?_
      refine pr_i2l hA dX8_nameLetter_47 ?_
      refine pr_callSi hA [.long ((z).toInt64), .long (0 : Int64), .long ((((σ 1 (12 + 7 * k)) - (1 : Int32))).toInt64)] (c_m_in (m := m) (σ := (pr_up σ 0 6 (0 : Int32))) (a := (z).toInt64) (b := (0 : Int64)) (c := (((σ 1 (12 + 7 * k)) - (1 : Int32))).toInt64) (pr_hl hA) hm) s_X8_80 rfl (by decide) (Nat.zero_le _) (Nat.zero_le _) rfl (Nat.le_of_ble_eq_true rfl) dX8_nameLetter_48 ?_
      refine pr_if_eq hA 67 dX8_nameLetter_51 (by decide) (fun c_51 => ?_) (fun c_51 => ?_)
      · refine pr_iconst hA ((-1)) dX8_nameLetter_67 (by decide) ?_
        exact pr_ireturn hA rfl rfl (Nat.zero_le _) (Nat.zero_le _) dX8_nameLetter_68 ⟨(by simp only [mf_nameLetter_r, if_pos c_51]), rfl, (by simp only [mf_nameLetter, if_pos c_51]), rfl⟩
      · have hz6 : vp_in z 6 := nm_in hI (by omega) c_51
        have hz1 := vp_in_lt hz6
        refine pr_aload_n hA dX8_nameLetter_54 rfl ?_
        refine pr_getR hA f_X8_9 rfl (mo_k0 hm) (mo_f0_0 hm) dX8_nameLetter_55 ?_
        refine pr_iload_n hA dX8_nameLetter_58 rfl ?_
        refine pr_iconst hA (1) dX8_nameLetter_59 (by decide) ?_
        refine pr_iaddE (v := nI ((12 + 7 * k) + 1)) hA (nI_1 _) dX8_nameLetter_60 ?_
        refine pr_iload_n hA dX8_nameLetter_61 rfl ?_
        refine pr_iadd hA dX8_nameLetter_62 ?_
        rw [show ((nI ((12 + 7 * k) + 1)) + z) = (nI (((12 + 7 * k) + 1) + z.toNatClampNeg)) from (nI_addx hz6 (by decide))]
        refine pr_ialdM (v := (σ 1 (((12 + 7 * k) + 1) + z.toNatClampNeg))) hA (mo_k1 hm) (by omega) (by omega) ((rg_val (by decide)).trans (pr_upv (by decide))) dX8_nameLetter_63 ?_
        refine pr_goto hA 68 dX8_nameLetter_64 (by decide) ?_
        exact pr_ireturn hA rfl rfl (Nat.zero_le _) (Nat.zero_le _) dX8_nameLetter_68 ⟨(by simp only [mf_nameLetter_r, if_neg c_51]), rfl, (by simp only [mf_nameLetter, if_neg c_51]), rfl⟩
    · exact (c_23 (by decide)).elim
  · exact absurd c_11 (by decide)

theorem fr_mf_nameLetter {σ : pr_I} {k : Nat} {z : Int32} {o : Nat} (hms : ∀ m ∈ ([0] : List Nat), o ≠ m) : mf_nameLetter σ k z o = σ o := by
  unfold mf_nameLetter
  simp only [List.mem_cons, List.not_mem_nil, or_false, forall_eq_or_imp, forall_eq] at hms
  by_cases c_51 : (m_in_r (pr_up σ 0 6 (0 : Int32)) ((z).toInt64) (0 : Int64) ((((σ 1 (12 + 7 * k)) - (1 : Int32))).toInt64)) = 0
  · refine (congrFun (if_pos c_51) o).trans ?_
    rw [pr_up_ne (by omega)]
  · refine (congrFun (if_neg c_51) o).trans ?_
    rw [pr_up_ne (by omega)]

noncomputable def mf_nodeNamed_it9 (σ : pr_I) (n : Nat) : Nat → Int32
  | 0 => ((-1) : Int32)
  | k + 1 => (if (6 : Int32) < (nI n) then (mf_nodeNamed_it9 σ n k) else (if (inm (σ 1) (σ 7) k 0 n) = 0 then (mf_nodeNamed_it9 σ n k) else (nI k)))
noncomputable def mf_nodeNamed_r (σ : pr_I) (n : Nat) : Int32 := (mf_nodeNamed_it9 σ n (mnn σ))
noncomputable def mf_nodeNamed (σ : pr_I) (n : Nat) : pr_I := (pr_up (pr_up σ 0 6 (0 : Int32)) 0 8 (0 : Int32))
set_option maxRecDepth 100000 in
set_option maxHeartbeats 400000 in
theorem c_mf_nodeNamed {g : pr_C} {l : Launch} (hl : l.stackTraces = false) {T : pr_T} {I : pr_I} {L : pr_L} {m : Nat} {σ : pr_I} {n : Nat} (hm : pr_Mo T m) (hI : mI σ) (hn : σ 0 8 = nI n) (hn7 : n ≤ 700) : pr_M g l 12 0 0 mX8_nodeNamed [.ref m] T (rg_put I m 16 σ) L (pr_R (some (.int (mf_nodeNamed_r σ n))) T (rg_put I m 16 (mf_nodeNamed σ n)) L) pr_no := by
  refine pr_ofG (by decide) rfl hl (Nat.le_of_ble_eq_true rfl) (fun X hA hX hXn hXt => ?_)
  subst hX
  show pr_G g X mX8_nodeNamed.2.2.1 _ 0 0 0 [.ref m, .null, .null] [] T (rg_put I m 16 σ) L
  have hn5 := mI_n5 hI
  have hr4 := mI_nr4 hI
  have hl24 := mI_nl24 hI
  have hn12 := mI_nn12 hI
  refine pr_aload_n hA dX8_nodeNamed_0 rfl ?_
  refine pr_iconst hA (0) dX8_nodeNamed_1 (by decide) ?_
  refine pr_putE (I' := (rg_put I m 16 (pr_up σ 0 6 (0 : Int32)))) hA f_X8_60 rfl (mo_k0 hm) (rg_up0 (by decide)) dX8_nodeNamed_2 ?_
  refine pr_iconst hA ((-1)) dX8_nodeNamed_5 (by decide) ?_
  refine pr_istore_n (ls' := [_, _, _]) hA dX8_nodeNamed_6 (by decide) rfl ?_
  refine pr_iconst hA (nI 0) dX8_nodeNamed_7 (by decide) ?_
  refine pr_istore_n (ls' := [_, _, _]) hA dX8_nodeNamed_8 (by decide) rfl ?_
  have lp9 : ∀ (j k : Nat), (mnn σ) - k = j → k ≤ (mnn σ) → pr_G g X mX8_nodeNamed.2.2.1 (pr_MQ g X (pr_R (some (.int (mf_nodeNamed_r σ n))) T (rg_put I m 16 (mf_nodeNamed σ n)) L) pr_no 0 0) 0 0 9 [.ref m, .int (mf_nodeNamed_it9 σ n k), .int (nI k)] [] T (rg_put I m 16 (pr_up σ 0 6 (0 : Int32))) L := by
    intro j
    induction j using Nat.strongRecOn with | ind j ih9 =>
    intro k hj9 hk9
    refine pr_iload_n hA dX8_nodeNamed_9 rfl ?_
    refine pr_aload_n hA dX8_nodeNamed_10 rfl ?_
    refine pr_getR hA f_X8_9 rfl (mo_k0 hm) (mo_f0_0 hm) dX8_nodeNamed_11 ?_
    refine pr_bipush hA (nI 6) dX8_nodeNamed_14 (by decide) ?_
    refine pr_ialdM (v := (nI (mnn σ))) hA (mo_k1 hm) (by omega) (by omega) ((rg_val (by decide)).trans ((pr_upv (by decide)).trans (mI_nn hI))) dX8_nodeNamed_16 ?_
    refine pr_icmp_ge hA 61 dX8_nodeNamed_17 (by decide) (fun c_17 => ?_) (fun c_17 => ?_)
    · have n_17 : (mnn σ) ≤ k := (nI_leI (by omega) (by omega)).mp c_17
      have hex : (mnn σ) = k := by omega
      subst hex
      refine pr_aload_n hA dX8_nodeNamed_61 rfl ?_
      refine pr_iconst hA (0) dX8_nodeNamed_62 (by decide) ?_
      refine pr_putE (I' := (rg_put I m 16 (pr_up (pr_up σ 0 6 (0 : Int32)) 0 8 (0 : Int32)))) hA f_X8_66 rfl (mo_k0 hm) (rg_up0 (by decide)) dX8_nodeNamed_63 ?_
      refine pr_iload_n hA dX8_nodeNamed_66 rfl ?_
      exact pr_ireturn hA rfl rfl (Nat.zero_le _) (Nat.zero_le _) dX8_nodeNamed_67 ⟨rfl, rfl, rfl, rfl⟩
    · have n_17 : ¬ (mnn σ) ≤ k := fun q => c_17 ((nI_leI (by omega) (by omega)).mpr q)
      refine pr_aload_n hA dX8_nodeNamed_20 rfl ?_
      refine pr_getE (v := (nI n)) hA f_X8_66 rfl (mo_k0 hm) ((rg_val0 (by decide)).trans ((pr_upk (by decide)).trans hn)) dX8_nodeNamed_21 ?_
      refine pr_bipush hA (6) dX8_nodeNamed_24 (by decide) ?_
      refine pr_join (c := (6 : Int32) < (nI n)) (J := 54) (st := []) (mf_nodeNamed_it9 σ n k) (if (inm (σ 1) (σ 7) k 0 n) = 0 then (mf_nodeNamed_it9 σ n k) else (nI k)) inferInstance (fun kt kf => ?_) ?_
      · refine pr_icmp_gt hA 53 dX8_nodeNamed_26 (by decide) (fun c_26 => ?_) (fun c_26 => ?_)
        · refine pr_iload_n hA dX8_nodeNamed_53 rfl ?_
          exact kt c_26
        · refine pr_aload_n hA dX8_nodeNamed_29 rfl ?_
          refine pr_getR hA f_X8_9 rfl (mo_k0 hm) (mo_f0_0 hm) dX8_nodeNamed_30 ?_
          refine pr_iload_n hA dX8_nodeNamed_33 rfl ?_
          refine pr_aload_n hA dX8_nodeNamed_34 rfl ?_
          refine pr_getR hA f_X8_29 rfl (mo_k0 hm) (mo_f0_7 hm) dX8_nodeNamed_35 ?_
          refine pr_iconst hA (nI 0) dX8_nodeNamed_38 (by decide) ?_
          refine pr_aload_n hA dX8_nodeNamed_39 rfl ?_
          refine pr_getE (v := (nI n)) hA f_X8_66 rfl (mo_k0 hm) ((rg_val0 (by decide)).trans ((pr_upk (by decide)).trans hn)) dX8_nodeNamed_40 ?_
          refine pr_callSi hA [.ref (m + 1), .int (nI k), .ref (m + 7), .int (nI 0), .int (nI n)] (c_inm1E (m := m) (σ := (pr_up σ 0 6 (0 : Int32))) (k := k) (f := 0) (c := n) (r := (σ 1)) (b := (σ 7)) (pr_hl hA) hm (by omega) (by omega) (pr_up_ne (by decide)) (pr_up_ne (by decide))) s_X8_135 rfl (by decide) (Nat.zero_le _) (Nat.zero_le _) rfl (Nat.le_of_ble_eq_true rfl) dX8_nodeNamed_43 ?_
          refine pr_join (c := (inm (σ 1) (σ 7) k 0 n) = 0) (J := 54) (st := []) (mf_nodeNamed_it9 σ n k) (nI k) inferInstance (fun kt kf => ?_) ?_
          · refine pr_if_eq hA 53 dX8_nodeNamed_46 (by decide) (fun c_46 => ?_) (fun c_46 => ?_)
            · refine pr_iload_n hA dX8_nodeNamed_53 rfl ?_
              exact kt c_46
            · refine pr_iload_n hA dX8_nodeNamed_49 rfl ?_
              refine pr_goto hA 54 dX8_nodeNamed_50 (by decide) ?_
              exact kf c_46
          · exact kf c_26
      · refine pr_istore_n (ls' := [_, _, _]) hA dX8_nodeNamed_54 (by decide) rfl ?_
        refine pr_iinc (ls' := [_, _, _]) hA (nI (k + 1)) dX8_nodeNamed_55 (by decide) rfl (nI_inc _) rfl ?_
        refine pr_goto hA 9 dX8_nodeNamed_58 (by decide) ?_
        have hb := ih9 ((mnn σ) - (k + 1)) (by omega) (k + 1) rfl (by omega)
        simp only [mf_nodeNamed_it9] at hb
        exact hb
  exact (lp9 ((mnn σ) - 0) 0 rfl (by omega))

theorem fr_mf_nodeNamed {σ : pr_I} {n : Nat} {o : Nat} (hms : ∀ m ∈ ([0] : List Nat), o ≠ m) : mf_nodeNamed σ n o = σ o := by
  unfold mf_nodeNamed
  simp only [List.mem_cons, List.not_mem_nil, or_false, forall_eq_or_imp, forall_eq] at hms
  rw [pr_up_ne (by omega), pr_up_ne (by omega)]

noncomputable def mf_append_it11 (σ : pr_I) (n : Nat) (q : Int64) : Nat → Int32 × Int32
  | 0 => ((0 : Int32), (56 : Int32))
  | k + 1 => (if ((mf_append_it11 σ n q k).2) < 0 then (((mf_append_it11 σ n q k).1), ((mf_append_it11 σ n q k).2)) else ((((mf_append_it11 σ n q k).1) + (if (lg_cmp ((q.toUInt64 >>> ((((mf_append_it11 σ n q k).2)).toInt64.toUInt64 &&& Int64.toUInt64 63)).toInt64 &&& (255 : Int64)) (0 : Int64)) = 0 then (0 : Int32) else (1 : Int32))), (((mf_append_it11 σ n q k).2) + Int32.ofInt (-8))))
noncomputable def mf_append_it11_e (σ : pr_I) (n : Nat) (q : Int64) (k : Nat) : Bool := (if ((mf_append_it11 σ n q k).2) < 0 then true else false)
theorem st_mf_append_it11_13 {σ : pr_I} {n : Nat} {q : Int64} {k : Nat} (c_13 : ((mf_append_it11 σ n q k).2) < 0) : ∀ j, mf_append_it11 σ n q (k + j) = mf_append_it11 σ n q k
  | 0 => rfl
  | j + 1 => by
    have ih := st_mf_append_it11_13 c_13 j
    show mf_append_it11 σ n q ((k + j) + 1) = mf_append_it11 σ n q k
    simp only [mf_append_it11, ih, if_pos c_13]
noncomputable def mf_append_it62 (σ : pr_I) (n : Nat) (q : Int64) : Nat → pr_I × Int32
  | 0 => ((pr_up σ 0 6 (0 : Int32)), (56 : Int32))
  | k + 1 => (if ((mf_append_it62 σ n q k).2) < 0 then ((mf_append_it62 σ n q k).1, ((mf_append_it62 σ n q k).2)) else (if (((q.toUInt64 >>> ((((mf_append_it62 σ n q k).2)).toInt64.toUInt64 &&& Int64.toUInt64 63)).toInt64 &&& (255 : Int64))).toInt32 = 0 then ((mf_append_it62 σ n q k).1, (((mf_append_it62 σ n q k).2) + Int32.ofInt (-8))) else ((pr_up (pr_up (mf_append_it62 σ n q k).1 7 (((mf_append_it62 σ n q k).1 0 8).toNatClampNeg) ((((q.toUInt64 >>> ((((mf_append_it62 σ n q k).2)).toInt64.toUInt64 &&& Int64.toUInt64 63)).toInt64 &&& (255 : Int64))).toInt32)) 0 8 (((mf_append_it62 σ n q k).1 0 8) + (1 : Int32))), (((mf_append_it62 σ n q k).2) + Int32.ofInt (-8)))))
theorem fr_mf_append_it62 {σ : pr_I} {n : Nat} {q : Int64} {o : Nat} (hms : ∀ m ∈ ([0, 7] : List Nat), o ≠ m) : ∀ {k : Nat}, (mf_append_it62 σ n q k).1 o = (pr_up σ 0 6 (0 : Int32)) o := by
  simp only [List.mem_cons, List.not_mem_nil, or_false, forall_eq_or_imp, forall_eq] at hms
  intro k
  induction k with
  | zero =>
    show (pr_up σ 0 6 (0 : Int32)) o = (pr_up σ 0 6 (0 : Int32)) o
    rfl
  | succ k ih =>
    by_cases c_64 : ((mf_append_it62 σ n q k).2) < 0
    · refine (congrFun (congrArg (fun z : pr_I × Int32 => z.1) (if_pos c_64)) o).trans ?_
      show (mf_append_it62 σ n q k).1 o = (pr_up σ 0 6 (0 : Int32)) o
      rw [ih]
    · refine (congrFun (congrArg (fun z : pr_I × Int32 => z.1) (if_neg c_64)) o).trans ?_
      by_cases c_80 : (((q.toUInt64 >>> ((((mf_append_it62 σ n q k).2)).toInt64.toUInt64 &&& Int64.toUInt64 63)).toInt64 &&& (255 : Int64))).toInt32 = 0
      · refine (congrFun (congrArg (fun z : pr_I × Int32 => z.1) (if_pos c_80)) o).trans ?_
        show (mf_append_it62 σ n q k).1 o = (pr_up σ 0 6 (0 : Int32)) o
        rw [ih]
      · refine (congrFun (congrArg (fun z : pr_I × Int32 => z.1) (if_neg c_80)) o).trans ?_
        show (pr_up (pr_up (mf_append_it62 σ n q k).1 7 (((mf_append_it62 σ n q k).1 0 8).toNatClampNeg) ((((q.toUInt64 >>> ((((mf_append_it62 σ n q k).2)).toInt64.toUInt64 &&& Int64.toUInt64 63)).toInt64 &&& (255 : Int64))).toInt32)) 0 8 (((mf_append_it62 σ n q k).1 0 8) + (1 : Int32))) o = (pr_up σ 0 6 (0 : Int32)) o
        rw [pr_up_ne (by omega), pr_up_ne (by omega), ih]

noncomputable def mf_append_it62_e (σ : pr_I) (n : Nat) (q : Int64) (k : Nat) : Bool := (if ((mf_append_it62 σ n q k).2) < 0 then true else (if (((q.toUInt64 >>> ((((mf_append_it62 σ n q k).2)).toInt64.toUInt64 &&& Int64.toUInt64 63)).toInt64 &&& (255 : Int64))).toInt32 = 0 then false else false))
theorem st_mf_append_it62_64 {σ : pr_I} {n : Nat} {q : Int64} {k : Nat} (c_64 : ((mf_append_it62 σ n q k).2) < 0) : ∀ j, mf_append_it62 σ n q (k + j) = mf_append_it62 σ n q k
  | 0 => rfl
  | j + 1 => by
    have ih := st_mf_append_it62_64 c_64 j
    show mf_append_it62 σ n q ((k + j) + 1) = mf_append_it62 σ n q k
    simp only [mf_append_it62, ih, if_pos c_64]
noncomputable def mf_append_r (σ : pr_I) (n : Nat) (q : Int64) : Int32 := (if ((nI n) + ((mf_append_it11 σ n q (sl 8)).1)) ≤ (700 : Int32) then ((mf_append_it62 σ n q (sl 8)).1 0 8) else ((-2) : Int32))
noncomputable def mf_append (σ : pr_I) (n : Nat) (q : Int64) : pr_I := (if ((nI n) + ((mf_append_it11 σ n q (sl 8)).1)) ≤ (700 : Int32) then (mf_append_it62 σ n q (sl 8)).1 else (pr_up σ 0 6 (0 : Int32)))
theorem ap_s1 {σ : pr_I} {n : Nat} {q : Int64} : ∀ k, k ≤ 8 → (mf_append_it11 σ n q k).2 = ad_sh k
  | 0, _ => by unfold ad_sh; rfl
  | k + 1, h => by
    have ih := ap_s1 (σ := σ) (n := n) (q := q) k (by omega)
    simp only [mf_append_it11, ih, if_neg (ad_sh_s k (by omega)).1, (ad_sh_s k (by omega)).2, apply_ite Prod.snd, ite_self]
theorem ap_e1 {σ : pr_I} {n : Nat} {q : Int64} : mf_append_it11_e σ n q (sl 8) = true := by
  rw [sl_eq]; unfold mf_append_it11_e; rw [ap_s1 8 (by omega), if_pos ad_sh_8]
theorem ap_s2 {σ : pr_I} {n : Nat} {q : Int64} : ∀ k, k ≤ 8 → (mf_append_it62 σ n q k).2 = ad_sh k
  | 0, _ => by unfold ad_sh; rfl
  | k + 1, h => by
    have ih := ap_s2 (σ := σ) (n := n) (q := q) k (by omega)
    simp only [mf_append_it62, ih, if_neg (ad_sh_s k (by omega)).1, (ad_sh_s k (by omega)).2, apply_ite Prod.snd, ite_self]
theorem ap_e2 {σ : pr_I} {n : Nat} {q : Int64} : mf_append_it62_e σ n q (sl 8) = true := by
  rw [sl_eq]; unfold mf_append_it62_e
  rw [ap_s2 8 (by omega), if_pos ad_sh_8]
set_option maxRecDepth 100000 in
set_option maxHeartbeats 400000 in
theorem c_mf_append {g : pr_C} {l : Launch} (hl : l.stackTraces = false) {T : pr_T} {I : pr_I} {L : pr_L} {m : Nat} {σ : pr_I} {n : Nat} {q : Int64} (hm : pr_Mo T m) (hI : mI σ) (hn : σ 0 8 = nI n) (hn7 : n ≤ 700) (hbb : ∀ k, k < 8 → ¬ ((((q.toUInt64 >>> ((((mf_append_it62 σ n q k).2)).toInt64.toUInt64 &&& Int64.toUInt64 63)).toInt64 &&& (255 : Int64))).toInt32) = 0 → vp_in ((mf_append_it62 σ n q k).1 0 8) 700) : pr_M g l 12 0 0 mX8_append [.ref m, .long q] T (rg_put I m 16 σ) L (pr_R (some (.int (mf_append_r σ n q))) T (rg_put I m 16 (mf_append σ n q)) L) pr_no := by
  refine pr_ofG (by decide) rfl hl (Nat.le_of_ble_eq_true rfl) (fun X hA hX hXn hXt => ?_)
  subst hX
  show pr_G g X mX8_append.2.2.1 _ 0 0 0 [.ref m, .long q, .null, .null, .null, .null] [] T (rg_put I m 16 σ) L
  have hn5 := mI_n5 hI
  have hr4 := mI_nr4 hI
  have hl24 := mI_nl24 hI
  have hn12 := mI_nn12 hI
  have hsl8 := sl_eq 8
  refine pr_aload_n hA dX8_append_0 rfl ?_
  refine pr_iconst hA (0) dX8_append_1 (by decide) ?_
  refine pr_putE (I' := (rg_put I m 16 (pr_up σ 0 6 (0 : Int32)))) hA f_X8_60 rfl (mo_k0 hm) (rg_up0 (by decide)) dX8_append_2 ?_
  refine pr_iconst hA (0) dX8_append_5 (by decide) ?_
  refine pr_istore_n (ls' := [_, _, _, _, _, _]) hA dX8_append_6 (by decide) rfl ?_
  refine pr_bipush hA (56) dX8_append_7 (by decide) ?_
  refine pr_istore (ls' := [_, _, _, _, _, _]) hA dX8_append_9 (by decide) rfl ?_
  have lp11 : ∀ (j k : Nat), (sl 8) - k = j → k ≤ (sl 8) → pr_G g X mX8_append.2.2.1 (pr_MQ g X (pr_R (some (.int (mf_append_r σ n q))) T (rg_put I m 16 (mf_append σ n q)) L) pr_no 0 0) 0 0 11 [.ref m, .long q, .null, .int ((mf_append_it11 σ n q k).1), .int ((mf_append_it11 σ n q k).2), .null] [] T (rg_put I m 16 (pr_up σ 0 6 (0 : Int32))) L := by
    intro j
    induction j using Nat.strongRecOn with | ind j ih11 =>
    intro k hj11 hk11
    refine pr_iload hA dX8_append_11 rfl ?_
    refine pr_if_lt hA 43 dX8_append_13 (by decide) (fun c_13 => ?_) (fun c_13 => ?_)
    · have hst := st_mf_append_it11_13 c_13 ((sl 8) - k)
      rw [show k + ((sl 8) - k) = (sl 8) from by omega] at hst
      refine pr_lessL (ls' := [.ref m, .long q, .null, .int ((mf_append_it11 σ n q k).1), .int ((mf_append_it11 σ n q k).2), .null]) ⟨.inr rfl, .inr rfl, .inl rfl, .inr rfl, .inr rfl, .inl rfl, trivial⟩ ?_
      rw [← hst]
      refine pr_aload_n hA dX8_append_43 rfl ?_
      refine pr_getE (v := (nI n)) hA f_X8_66 rfl (mo_k0 hm) ((rg_val0 (by decide)).trans ((pr_upk (by decide)).trans hn)) dX8_append_44 ?_
      refine pr_iload_n hA dX8_append_47 rfl ?_
      refine pr_iadd hA dX8_append_48 ?_
      refine pr_sipush hA (700) dX8_append_49 (by decide) ?_
      refine pr_icmp_le hA 58 dX8_append_52 (by decide) (fun c_52 => ?_) (fun c_52 => ?_)
      · refine pr_bipush hA (56) dX8_append_58 (by decide) ?_
        refine pr_istore (ls' := [_, _, _, _, _, _]) hA dX8_append_60 (by decide) rfl ?_
        have lp62 : ∀ (j k : Nat), (sl 8) - k = j → k ≤ (sl 8) → pr_G g X mX8_append.2.2.1 (pr_MQ g X (pr_R (some (.int (mf_append_r σ n q))) T (rg_put I m 16 (mf_append σ n q)) L) pr_no 0 0) 0 0 62 [.ref m, .long q, .null, .int ((mf_append_it11 σ n q (sl 8)).1), .int ((mf_append_it62 σ n q k).2), .null] [] T (rg_put I m 16 (mf_append_it62 σ n q k).1) L := by
          intro j
          induction j using Nat.strongRecOn with | ind j ih62 =>
          intro k hj62 hk62
          refine pr_iload hA dX8_append_62 rfl ?_
          refine pr_if_lt hA 113 dX8_append_64 (by decide) (fun c_64 => ?_) (fun c_64 => ?_)
          · have hst := st_mf_append_it62_64 c_64 ((sl 8) - k)
            rw [show k + ((sl 8) - k) = (sl 8) from by omega] at hst
            refine pr_lessL (ls' := [.ref m, .long q, .null, .int ((mf_append_it11 σ n q (sl 8)).1), .int ((mf_append_it62 σ n q k).2), .null]) ⟨.inr rfl, .inr rfl, .inl rfl, .inr rfl, .inr rfl, .inl rfl, trivial⟩ ?_
            rw [← hst]
            refine pr_aload_n hA dX8_append_113 rfl ?_
            refine pr_getE (v := ((mf_append_it62 σ n q (sl 8)).1 0 8)) hA f_X8_66 rfl (mo_k0 hm) (rg_val0 (by decide)) dX8_append_114 ?_
            exact pr_ireturn hA rfl rfl (Nat.zero_le _) (Nat.zero_le _) dX8_append_117 ⟨(by simp only [mf_append_r, if_pos c_52]), rfl, (by simp only [mf_append, if_pos c_52]), rfl⟩
          · refine pr_lload_n hA dX8_append_67 rfl ?_
            refine pr_iload hA dX8_append_68 rfl ?_
            refine pr_lushr hA dX8_append_70 ?_
            refine pr_ldc2 hA kK_X8_64 dX8_append_71 ?_
            refine pr_land hA dX8_append_74 ?_
            refine pr_l2i hA dX8_append_75 ?_
            refine pr_istore (ls' := [_, _, _, _, _, _]) hA dX8_append_76 (by decide) rfl ?_
            refine pr_iload hA dX8_append_78 rfl ?_
            refine pr_if_ne hA 86 dX8_append_80 (by decide) (fun c_80 => ?_) (fun c_80 => ?_)
            · refine pr_aload_n hA dX8_append_86 rfl ?_
              refine pr_getR hA f_X8_29 rfl (mo_k0 hm) (mo_f0_7 hm) dX8_append_87 ?_
              refine pr_aload_n hA dX8_append_90 rfl ?_
              refine pr_getE (v := ((mf_append_it62 σ n q k).1 0 8)) hA f_X8_66 rfl (mo_k0 hm) (rg_val0 (by decide)) dX8_append_91 ?_
              refine pr_iload hA dX8_append_94 rfl ?_
              refine pr_iastE (I' := (rg_put I m 16 (pr_up (mf_append_it62 σ n q k).1 7 (((mf_append_it62 σ n q k).1 0 8).toNatClampNeg) ((((q.toUInt64 >>> ((((mf_append_it62 σ n q k).2)).toInt64.toUInt64 &&& Int64.toUInt64 63)).toInt64 &&& (255 : Int64))).toInt32)))) hA (mo_k7 hm) (hbb k (by have h8 := sl_eq 8; rcases Nat.lt_or_ge k (sl 8) with q9 | q9; omega; exact absurd ad_sh_8 (by rw [← ap_s2 (σ := σ) (n := n) (q := q) 8 (by omega), show (8 : Nat) = k from by omega]; first | exact c_64 | exact Int32.not_lt.mp c_64)) c_80) (rg_up (by decide)) dX8_append_96 ?_
              refine pr_aload_n hA dX8_append_97 rfl ?_
              refine pr_dup hA dX8_append_98 rfl ?_
              refine pr_getE (v := ((mf_append_it62 σ n q k).1 0 8)) hA f_X8_66 rfl (mo_k0 hm) ((rg_val0 (by decide)).trans (pr_upv (by decide))) dX8_append_99 ?_
              refine pr_iconst hA (1) dX8_append_102 (by decide) ?_
              refine pr_iadd hA dX8_append_103 ?_
              refine pr_putE (I' := (rg_put I m 16 (pr_up (pr_up (mf_append_it62 σ n q k).1 7 (((mf_append_it62 σ n q k).1 0 8).toNatClampNeg) ((((q.toUInt64 >>> ((((mf_append_it62 σ n q k).2)).toInt64.toUInt64 &&& Int64.toUInt64 63)).toInt64 &&& (255 : Int64))).toInt32)) 0 8 (((mf_append_it62 σ n q k).1 0 8) + (1 : Int32))))) hA f_X8_66 rfl (mo_k0 hm) (rg_up0 (by decide)) dX8_append_104 ?_
              refine pr_iinc (ls' := [_, _, _, _, _, _]) hA (((mf_append_it62 σ n q k).2) + Int32.ofInt (-8)) dX8_append_107 (by decide) rfl rfl rfl ?_
              refine pr_goto hA 62 dX8_append_110 (by decide) ?_
              have hlt : k < (sl 8) := by
                rcases Nat.lt_or_ge k (sl 8) with hlt0 | hlt0
                · exact hlt0
                · have e : k = (sl 8) := by omega
                  exact absurd (ap_e2 (σ := σ) (n := n) (q := q)) (by rw [← e]; simp only [mf_append_it62_e, if_neg c_64, if_neg c_80]; decide)
              have hb := ih62 ((sl 8) - (k + 1)) (by omega) (k + 1) rfl (by omega)
              simp only [mf_append_it62, if_neg c_64, if_neg c_80] at hb
              exact pr_lessL (ls' := [.ref m, .long q, .null, .int ((mf_append_it11 σ n q (sl 8)).1), .int (((mf_append_it62 σ n q k).2) + Int32.ofInt (-8)), .null]) ⟨.inr rfl, .inr rfl, .inl rfl, .inr rfl, .inr rfl, .inl rfl, trivial⟩ hb
            · refine pr_goto hA 107 dX8_append_83 (by decide) ?_
              refine pr_iinc (ls' := [_, _, _, _, _, _]) hA (((mf_append_it62 σ n q k).2) + Int32.ofInt (-8)) dX8_append_107 (by decide) rfl rfl rfl ?_
              refine pr_goto hA 62 dX8_append_110 (by decide) ?_
              have hlt : k < (sl 8) := by
                rcases Nat.lt_or_ge k (sl 8) with hlt0 | hlt0
                · exact hlt0
                · have e : k = (sl 8) := by omega
                  exact absurd (ap_e2 (σ := σ) (n := n) (q := q)) (by rw [← e]; simp only [mf_append_it62_e, if_neg c_64, if_pos c_80]; decide)
              have hb := ih62 ((sl 8) - (k + 1)) (by omega) (k + 1) rfl (by omega)
              simp only [mf_append_it62, if_neg c_64, if_pos c_80] at hb
              exact pr_lessL (ls' := [.ref m, .long q, .null, .int ((mf_append_it11 σ n q (sl 8)).1), .int (((mf_append_it62 σ n q k).2) + Int32.ofInt (-8)), .null]) ⟨.inr rfl, .inr rfl, .inl rfl, .inr rfl, .inr rfl, .inl rfl, trivial⟩ hb
        exact (lp62 ((sl 8) - 0) 0 rfl (by omega))
      · refine pr_bipush hA ((-2)) dX8_append_55 (by decide) ?_
        exact pr_ireturn hA rfl rfl (Nat.zero_le _) (Nat.zero_le _) dX8_append_57 ⟨(by simp only [mf_append_r, if_neg c_52]), rfl, (by simp only [mf_append, if_neg c_52]), rfl⟩
    · refine pr_iload_n hA dX8_append_16 rfl ?_
      refine pr_lload_n hA dX8_append_17 rfl ?_
      refine pr_iload hA dX8_append_18 rfl ?_
      refine pr_lushr hA dX8_append_20 ?_
      refine pr_ldc2 hA kK_X8_64 dX8_append_21 ?_
      refine pr_land hA dX8_append_24 ?_
      refine pr_lconst hA 0 dX8_append_25 (by decide) ?_
      refine pr_lcmp hA dX8_append_26 ?_
      refine pr_join (c := (lg_cmp ((q.toUInt64 >>> ((((mf_append_it11 σ n q k).2)).toInt64.toUInt64 &&& Int64.toUInt64 63)).toInt64 &&& (255 : Int64)) (0 : Int64)) = 0) (J := 35) (st := [.int ((mf_append_it11 σ n q k).1)]) (0 : Int32) (1 : Int32) inferInstance (fun kt kf => ?_) ?_
      · refine pr_if_eq hA 34 dX8_append_27 (by decide) (fun c_27 => ?_) (fun c_27 => ?_)
        · refine pr_iconst hA (0) dX8_append_34 (by decide) ?_
          exact kt c_27
        · refine pr_iconst hA (1) dX8_append_30 (by decide) ?_
          refine pr_goto hA 35 dX8_append_31 (by decide) ?_
          exact kf c_27
      · refine pr_iadd hA dX8_append_35 ?_
        refine pr_istore_n (ls' := [_, _, _, _, _, _]) hA dX8_append_36 (by decide) rfl ?_
        refine pr_iinc (ls' := [_, _, _, _, _, _]) hA (((mf_append_it11 σ n q k).2) + Int32.ofInt (-8)) dX8_append_37 (by decide) rfl rfl rfl ?_
        refine pr_goto hA 11 dX8_append_40 (by decide) ?_
        have hlt : k < (sl 8) := by
          rcases Nat.lt_or_ge k (sl 8) with hlt0 | hlt0
          · exact hlt0
          · have e : k = (sl 8) := by omega
            exact absurd (ap_e1 (σ := σ) (n := n) (q := q)) (by rw [← e]; simp only [mf_append_it11_e, if_neg c_13]; decide)
        have hb := ih11 ((sl 8) - (k + 1)) (by omega) (k + 1) rfl (by omega)
        simp only [mf_append_it11, if_neg c_13] at hb
        exact hb
  exact (lp11 ((sl 8) - 0) 0 rfl (by omega))

theorem fr_mf_append {σ : pr_I} {n : Nat} {q : Int64} {o : Nat} (hms : ∀ m ∈ ([0, 7] : List Nat), o ≠ m) : mf_append σ n q o = σ o := by
  unfold mf_append
  simp only [List.mem_cons, List.not_mem_nil, or_false, forall_eq_or_imp, forall_eq] at hms
  by_cases c_52 : ((nI n) + ((mf_append_it11 σ n q (sl 8)).1)) ≤ (700 : Int32)
  · refine (congrFun (if_pos c_52) o).trans ?_
    rw [fr_mf_append_it62 (by simp only [List.mem_cons, List.not_mem_nil, or_false, forall_eq_or_imp, forall_eq]; omega), pr_up_ne (by omega)]
  · refine (congrFun (if_neg c_52) o).trans ?_
    rw [pr_up_ne (by omega)]

