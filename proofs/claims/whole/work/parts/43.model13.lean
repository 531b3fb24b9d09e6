def m_tr_ok (σ : pr_I) (r : Nat) : Prop := (∀ k, (m_tr_it0 σ r k) 1 (264 + 28 * r + 6) = σ 1 0 → (m_tr_it0 σ r k) 1 (264 + 28 * r + 4) = (7 : Int32) → m_at_ok (m_tr_it0 σ r k) r) ∧ (∀ k, (m_tr_it0 σ r k) 1 (264 + 28 * r + 6) = σ 1 0 → (m_tr_it0 σ r k) 1 (264 + 28 * r + 4) = 0 → ¬ (m_tr_it0 σ r k) 1 (264 + 28 * r + 14) = (m_tr_it0 σ r k) 1 (264 + 28 * r + 13) → vp_in ((m_tr_it0 σ r k) 1 (264 + 28 * r + 14)) 11) ∧ (∀ k, (m_tr_it0 σ r k) 1 (264 + 28 * r + 6) = σ 1 0 → ¬ (m_tr_it0 σ r k) 1 (264 + 28 * r + 4) = (7 : Int32) → ¬ (m_tr_it0 σ r k) 1 (264 + 28 * r + 4) = 0 → vp_in (m_tof_r (m_tr_it0 σ r k) r ((m_tr_it0 σ r k) 1 (264 + 28 * r + (15 + (((m_tr_it0 σ r k) 1 (264 + 28 * r + 14)).toNatClampNeg - 1))))) 500) ∧ m_tr_it0_e σ r (sl 5) = true
noncomputable def m_ts_it12 (σ : pr_I) : Nat → pr_I
  | 0 => (pr_up σ 1 0 ((σ 1 0) + (1 : Int32)))
  | k + 1 => (if ((m_ts_it12 σ k) 1 (1384 + 8 * k + 5)) = 0 then (if ((m_ts_it12 σ k) 1 (1384 + 8 * k + 4)) = ((σ 1 0) + (1 : Int32)) then (m_exp (m_ts_it12 σ k) k) else (m_ts_it12 σ k)) else (m_ts_it12 σ k))
theorem fr_m_ts_it12 {σ : pr_I} {o : Nat} (hms : ∀ m ∈ ([1] : List Nat), o ≠ m) : ∀ {k : Nat}, (m_ts_it12 σ k) o = (pr_up σ 1 0 ((σ 1 0) + (1 : Int32))) o := by
  simp only [List.mem_cons, List.not_mem_nil, or_false, forall_eq_or_imp, forall_eq] at hms
  intro k
  induction k with
  | zero =>
    show (pr_up σ 1 0 ((σ 1 0) + (1 : Int32))) o = (pr_up σ 1 0 ((σ 1 0) + (1 : Int32))) o
    rfl
  | succ k ih =>
    by_cases c_29 : ((m_ts_it12 σ k) 1 (1384 + 8 * k + 5)) = 0
    · refine (congrFun (congrArg (fun z : pr_I => z) (if_pos c_29)) o).trans ?_
      by_cases c_44 : ((m_ts_it12 σ k) 1 (1384 + 8 * k + 4)) = ((σ 1 0) + (1 : Int32))
      · refine (congrFun (congrArg (fun z : pr_I => z) (if_pos c_44)) o).trans ?_
        show (m_exp (m_ts_it12 σ k) k) o = (pr_up σ 1 0 ((σ 1 0) + (1 : Int32))) o
        rw [fr_m_exp (by simp only [List.mem_cons, List.not_mem_nil, or_false, forall_eq_or_imp, forall_eq]; omega), ih]
      · refine (congrFun (congrArg (fun z : pr_I => z) (if_neg c_44)) o).trans ?_
        show (m_ts_it12 σ k) o = (pr_up σ 1 0 ((σ 1 0) + (1 : Int32))) o
        rw [ih]
    · refine (congrFun (congrArg (fun z : pr_I => z) (if_neg c_29)) o).trans ?_
      show (m_ts_it12 σ k) o = (pr_up σ 1 0 ((σ 1 0) + (1 : Int32))) o
      rw [ih]
theorem fw_m_ts_it12 {σ : pr_I} {j0 : Nat} (hj : j0 < 12) (hmw : ∀ m ∈ ([] : List Nat), j0 ≠ m) : ∀ {k : Nat}, (m_ts_it12 σ k) 1 j0 = (pr_up σ 1 0 ((σ 1 0) + (1 : Int32))) 1 j0 := by
  intro k
  induction k with
  | zero => rfl
  | succ k ih =>
    by_cases c_29 : ((m_ts_it12 σ k) 1 (1384 + 8 * k + 5)) = 0
    · refine (congrArg (fun z : pr_I => z 1 j0) (if_pos c_29)).trans ?_
      by_cases c_44 : ((m_ts_it12 σ k) 1 (1384 + 8 * k + 4)) = ((σ 1 0) + (1 : Int32))
      · refine (congrArg (fun z : pr_I => z 1 j0) (if_pos c_44)).trans ?_
        show (m_exp (m_ts_it12 σ k) k) 1 j0 = (pr_up σ 1 0 ((σ 1 0) + (1 : Int32))) 1 j0
        exact ((fw_m_exp hj (fun m hm => by cases hm)).trans ih)
      · refine (congrArg (fun z : pr_I => z 1 j0) (if_neg c_44)).trans ?_
        show (m_ts_it12 σ k) 1 j0 = (pr_up σ 1 0 ((σ 1 0) + (1 : Int32))) 1 j0
        exact ih
    · refine (congrArg (fun z : pr_I => z 1 j0) (if_neg c_29)).trans ?_
      show (m_ts_it12 σ k) 1 j0 = (pr_up σ 1 0 ((σ 1 0) + (1 : Int32))) 1 j0
      exact ih

noncomputable def m_ts_it60 (σ : pr_I) : Nat → pr_I
  | 0 => (m_ts_it12 σ (mtn σ))
  | k + 1 => (if ((m_ts_it60 σ k) 1 (264 + 28 * k + 4)) = (2 : Int32) then (if ((m_ts_it60 σ k) 1 (264 + 28 * k + 11)) = ((σ 1 0) + (1 : Int32)) then (m_end (m_ts_it60 σ k) k) else (m_ts_it60 σ k)) else (m_ts_it60 σ k))
theorem fr_m_ts_it60 {σ : pr_I} {o : Nat} (hms : ∀ m ∈ ([1] : List Nat), o ≠ m) : ∀ {k : Nat}, (m_ts_it60 σ k) o = (m_ts_it12 σ (mtn σ)) o := by
  simp only [List.mem_cons, List.not_mem_nil, or_false, forall_eq_or_imp, forall_eq] at hms
  intro k
  induction k with
  | zero =>
    show (m_ts_it12 σ (mtn σ)) o = (m_ts_it12 σ (mtn σ)) o
    rfl
  | succ k ih =>
    by_cases c_78 : ((m_ts_it60 σ k) 1 (264 + 28 * k + 4)) = (2 : Int32)
    · refine (congrFun (congrArg (fun z : pr_I => z) (if_pos c_78)) o).trans ?_
      by_cases c_94 : ((m_ts_it60 σ k) 1 (264 + 28 * k + 11)) = ((σ 1 0) + (1 : Int32))
      · refine (congrFun (congrArg (fun z : pr_I => z) (if_pos c_94)) o).trans ?_
        show (m_end (m_ts_it60 σ k) k) o = (m_ts_it12 σ (mtn σ)) o
        rw [fr_m_end (by simp only [List.mem_cons, List.not_mem_nil, or_false, forall_eq_or_imp, forall_eq]; omega), ih]
      · refine (congrFun (congrArg (fun z : pr_I => z) (if_neg c_94)) o).trans ?_
        show (m_ts_it60 σ k) o = (m_ts_it12 σ (mtn σ)) o
        rw [ih]
    · refine (congrFun (congrArg (fun z : pr_I => z) (if_neg c_78)) o).trans ?_
      show (m_ts_it60 σ k) o = (m_ts_it12 σ (mtn σ)) o
      rw [ih]
theorem fw_m_ts_it60 {σ : pr_I} {j0 : Nat} (hj : j0 < 12) (hmw : ∀ m ∈ ([] : List Nat), j0 ≠ m) : ∀ {k : Nat}, (m_ts_it60 σ k) 1 j0 = (m_ts_it12 σ (mtn σ)) 1 j0 := by
  intro k
  induction k with
  | zero => rfl
  | succ k ih =>
    by_cases c_78 : ((m_ts_it60 σ k) 1 (264 + 28 * k + 4)) = (2 : Int32)
    · refine (congrArg (fun z : pr_I => z 1 j0) (if_pos c_78)).trans ?_
      by_cases c_94 : ((m_ts_it60 σ k) 1 (264 + 28 * k + 11)) = ((σ 1 0) + (1 : Int32))
      · refine (congrArg (fun z : pr_I => z 1 j0) (if_pos c_94)).trans ?_
        show (m_end (m_ts_it60 σ k) k) 1 j0 = (m_ts_it12 σ (mtn σ)) 1 j0
        exact ((fw_m_end hj (fun m hm => by cases hm)).trans ih)
      · refine (congrArg (fun z : pr_I => z 1 j0) (if_neg c_94)).trans ?_
        show (m_ts_it60 σ k) 1 j0 = (m_ts_it12 σ (mtn σ)) 1 j0
        exact ih
    · refine (congrArg (fun z : pr_I => z 1 j0) (if_neg c_78)).trans ?_
      show (m_ts_it60 σ k) 1 j0 = (m_ts_it12 σ (mtn σ)) 1 j0
      exact ih

noncomputable def m_ts_it110 (σ : pr_I) : Nat → pr_I
  | 0 => (m_ts_it60 σ (mrn σ))
  | k + 1 => (m_tr (m_ts_it110 σ k) k)
theorem fr_m_ts_it110 {σ : pr_I} {o : Nat} (hms : ∀ m ∈ ([0, 1, 8, 9, 10] : List Nat), o ≠ m) : ∀ {k : Nat}, (m_ts_it110 σ k) o = (m_ts_it60 σ (mrn σ)) o := by
  simp only [List.mem_cons, List.not_mem_nil, or_false, forall_eq_or_imp, forall_eq] at hms
  intro k
  induction k with
  | zero =>
    show (m_ts_it60 σ (mrn σ)) o = (m_ts_it60 σ (mrn σ)) o
    rfl
  | succ k ih =>
    show (m_tr (m_ts_it110 σ k) k) o = (m_ts_it60 σ (mrn σ)) o
    rw [fr_m_tr (by simp only [List.mem_cons, List.not_mem_nil, or_false, forall_eq_or_imp, forall_eq]; omega), ih]
theorem fw_m_ts_it110 {σ : pr_I} {j0 : Nat} (hj : j0 < 12) (hmw : ∀ m ∈ ([9] : List Nat), j0 ≠ m) : ∀ {k : Nat}, (m_ts_it110 σ k) 1 j0 = (m_ts_it60 σ (mrn σ)) 1 j0 := by
  simp only [List.mem_cons, List.not_mem_nil, or_false, forall_eq_or_imp, forall_eq] at hmw
  intro k
  induction k with
  | zero => rfl
  | succ k ih =>
    show (m_tr (m_ts_it110 σ k) k) 1 j0 = (m_ts_it60 σ (mrn σ)) 1 j0
    exact ((fw_m_tr hj (by simp only [List.mem_cons, List.not_mem_nil, or_false, forall_eq_or_imp, forall_eq]; omega)).trans ih)

noncomputable def m_ts (σ : pr_I) : pr_I := (m_ts_it110 σ (mrn σ))
theorem mI_m_ts_it12 {σ : pr_I} (hI : mI σ) : ∀ k, k ≤ 500 → mI (m_ts_it12 σ k)
  | 0, _ => mI.upn hI rfl
  | k + 1, hk => by
    have ih := mI_m_ts_it12 hI k (by omega)
    unfold m_ts_it12
    exact I_ite (P := mI) (I_ite (P := mI) (mI_m_exp (by omega) ih) ih) ih
theorem mI_m_ts_it60 {σ : pr_I} (hI : mI σ) : ∀ k, k ≤ 40 → mI (m_ts_it60 σ k)
  | 0, _ => mI_m_ts_it12 hI _ (mI_n5 hI)
  | k + 1, hk => by
    have ih := mI_m_ts_it60 hI k (by omega)
    unfold m_ts_it60
    exact I_ite (P := mI) (I_ite (P := mI) (mI_m_end (by omega) ih) ih) ih
theorem mI_m_ts_it110 {σ : pr_I} (hI : mI σ) (htr : ∀ k, k < mrn σ → m_tr_ok (m_ts_it110 σ k) k) : ∀ k, k ≤ mrn σ → mI (m_ts_it110 σ k)
  | 0, _ => mI_m_ts_it60 hI _ (mI_nr4 hI)
  | k + 1, hk => by
    have ih := mI_m_ts_it110 hI htr k (by omega)
    have hr4 := mI_nr4 hI
    obtain ⟨a, b, c, d⟩ := htr k (by omega)
    exact mI_m_tr (by omega) a b c ih
set_option maxRecDepth 100000 in
set_option maxHeartbeats 400000 in
theorem c_m_ts {g : pr_C} {l : Launch} (hl : l.stackTraces = false) {T : pr_T} {I : pr_I} {L : pr_L} {m : Nat} {σ : pr_I}  (hm : pr_Mo T m) (hI : mI σ) (htr : ∀ k, k < mrn σ → m_tr_ok (m_ts_it110 σ k) k) : pr_M g l 8 0 0 mX8_ticks [.ref m] T (rg_put I m 16 σ) L (pr_R none T (rg_put I m 16 (m_ts σ)) L) pr_no := by
  refine pr_ofG (by decide) rfl hl (Nat.le_of_ble_eq_true rfl) (fun X hA hX hXn hXt => ?_)
  subst hX
  show pr_G g X mX8_ticks.2.2.1 _ 0 0 0 [.ref m, .null] [] T (rg_put I m 16 σ) L
  have hn5 := mI_n5 hI
  have hr4 := mI_nr4 hI
  have hl24 := mI_nl24 hI
  have hn12 := mI_nn12 hI
  refine pr_aload_n hA dX8_ticks_0 rfl ?_
  refine pr_getR hA f_X8_9 rfl (mo_k0 hm) (mo_f0_0 hm) dX8_ticks_1 ?_
  refine pr_iconst hA (nI 0) dX8_ticks_4 (by decide) ?_
  refine pr_dup2 hA dX8_ticks_5 rfl rfl ?_
  refine pr_ialdM (v := (σ 1 0)) hA (mo_k1 hm) (by omega) (by omega) (rg_val (by decide)) dX8_ticks_6 ?_
  refine pr_iconst hA (1) dX8_ticks_7 (by decide) ?_
  refine pr_iadd hA dX8_ticks_8 ?_
  refine pr_iastM (I' := (rg_put I m 16 (pr_up σ 1 0 ((σ 1 0) + (1 : Int32))))) hA (mo_k1 hm) (by omega) (by omega) (rg_up (by decide)) dX8_ticks_9 ?_
  refine pr_iconst hA (nI 0) dX8_ticks_10 (by decide) ?_
  refine pr_istore_n (ls' := [_, _]) hA dX8_ticks_11 (by decide) rfl ?_
  have lp12 : ∀ (j k : Nat), (mtn σ) - k = j → k ≤ (mtn σ) → pr_G g X mX8_ticks.2.2.1 (pr_MQ g X (pr_R none T (rg_put I m 16 (m_ts σ)) L) pr_no 0 0) 0 0 12 [.ref m, .int (nI k)] [] T (rg_put I m 16 (m_ts_it12 σ k)) L := by
    intro j
    induction j using Nat.strongRecOn with | ind j ih12 =>
    intro k hj12 hk12
    refine pr_iload_n hA dX8_ticks_12 rfl ?_
    refine pr_aload_n hA dX8_ticks_13 rfl ?_
    refine pr_getR hA f_X8_9 rfl (mo_k0 hm) (mo_f0_0 hm) dX8_ticks_14 ?_
    refine pr_bipush hA (nI 9) dX8_ticks_17 (by decide) ?_
    refine pr_ialdM (v := (nI (mtn σ))) hA (mo_k1 hm) (by omega) (by omega) ((rg_val (by decide)).trans ((fw_m_ts_it12 (by decide) (by decide)).trans ((pr_upk (by decide)).trans (mI_n hI)))) dX8_ticks_19 ?_
    refine pr_icmp_ge hA 58 dX8_ticks_20 (by decide) (fun c_20 => ?_) (fun c_20 => ?_)
    · have n_20 : (mtn σ) ≤ k := (nI_leI (by omega) (by omega)).mp c_20
      have hex : (mtn σ) = k := by omega
      subst hex
      refine pr_iconst hA (nI 0) dX8_ticks_58 (by decide) ?_
      refine pr_istore_n (ls' := [_, _]) hA dX8_ticks_59 (by decide) rfl ?_
      have lp60 : ∀ (j k : Nat), (mrn σ) - k = j → k ≤ (mrn σ) → pr_G g X mX8_ticks.2.2.1 (pr_MQ g X (pr_R none T (rg_put I m 16 (m_ts σ)) L) pr_no 0 0) 0 0 60 [.ref m, .int (nI k)] [] T (rg_put I m 16 (m_ts_it60 σ k)) L := by
        intro j
        induction j using Nat.strongRecOn with | ind j ih60 =>
        intro k hj60 hk60
        refine pr_iload_n hA dX8_ticks_60 rfl ?_
        refine pr_aload_n hA dX8_ticks_61 rfl ?_
        refine pr_getR hA f_X8_9 rfl (mo_k0 hm) (mo_f0_0 hm) dX8_ticks_62 ?_
        refine pr_bipush hA (nI 8) dX8_ticks_65 (by decide) ?_
        refine pr_ialdM (v := (nI (mrn σ))) hA (mo_k1 hm) (by omega) (by omega) ((rg_val (by decide)).trans ((fw_m_ts_it60 (by decide) (by decide)).trans ((fw_m_ts_it12 (by decide) (by decide)).trans ((pr_upk (by decide)).trans (mI_nr hI))))) dX8_ticks_67 ?_
        refine pr_icmp_ge hA 108 dX8_ticks_68 (by decide) (fun c_68 => ?_) (fun c_68 => ?_)
        · have n_68 : (mrn σ) ≤ k := (nI_leI (by omega) (by omega)).mp c_68
          have hex : (mrn σ) = k := by omega
          subst hex
          refine pr_iconst hA (nI 0) dX8_ticks_108 (by decide) ?_
          refine pr_istore_n (ls' := [_, _]) hA dX8_ticks_109 (by decide) rfl ?_
          have lp110 : ∀ (j k : Nat), (mrn σ) - k = j → k ≤ (mrn σ) → pr_G g X mX8_ticks.2.2.1 (pr_MQ g X (pr_R none T (rg_put I m 16 (m_ts σ)) L) pr_no 0 0) 0 0 110 [.ref m, .int (nI k)] [] T (rg_put I m 16 (m_ts_it110 σ k)) L := by
            intro j
            induction j using Nat.strongRecOn with | ind j ih110 =>
            intro k hj110 hk110
            refine pr_iload_n hA dX8_ticks_110 rfl ?_
            refine pr_aload_n hA dX8_ticks_111 rfl ?_
            refine pr_getR hA f_X8_9 rfl (mo_k0 hm) (mo_f0_0 hm) dX8_ticks_112 ?_
            refine pr_bipush hA (nI 8) dX8_ticks_115 (by decide) ?_
            refine pr_ialdM (v := (nI (mrn σ))) hA (mo_k1 hm) (by omega) (by omega) ((rg_val (by decide)).trans ((fw_m_ts_it110 (by decide) (by decide)).trans ((fw_m_ts_it60 (by decide) (by decide)).trans ((fw_m_ts_it12 (by decide) (by decide)).trans ((pr_upk (by decide)).trans (mI_nr hI)))))) dX8_ticks_117 ?_
            refine pr_icmp_ge hA 132 dX8_ticks_118 (by decide) (fun c_118 => ?_) (fun c_118 => ?_)
            · have n_118 : (mrn σ) ≤ k := (nI_leI (by omega) (by omega)).mp c_118
              have hex : (mrn σ) = k := by omega
              subst hex
              exact pr_return hA rfl (Nat.zero_le _) (Nat.zero_le _) dX8_ticks_132 ⟨rfl, rfl, rfl, rfl⟩
            · have n_118 : ¬ (mrn σ) ≤ k := fun q => c_118 ((nI_leI (by omega) (by omega)).mpr q)
              refine pr_aload_n hA dX8_ticks_121 rfl ?_
              refine pr_iload_n hA dX8_ticks_122 rfl ?_
              have hv123 : mI (m_ts_it110 σ k) := (mI_m_ts_it110 hI htr k (by omega))
              refine pr_callVv hA [.int (nI k)] (c_m_tr (m := m) (σ := (m_ts_it110 σ k)) (r := k) (pr_hl hA) hm hv123 (by first | omega | assumption) (htr k (by omega)).1 (htr k (by omega)).2.1 (htr k (by omega)).2.2.1 (htr k (by omega)).2.2.2) v_X8_276 (mo_k0 hm) (by decide) rfl rfl rfl (by decide) (Nat.zero_le _) (Nat.zero_le _) rfl (Nat.le_of_ble_eq_true rfl) dX8_ticks_123 ?_
              refine pr_iinc (ls' := [_, _]) hA (nI (k + 1)) dX8_ticks_126 (by decide) rfl (nI_inc _) rfl ?_
              refine pr_goto hA 110 dX8_ticks_129 (by decide) ?_
              have hb := ih110 ((mrn σ) - (k + 1)) (by omega) (k + 1) rfl (by omega)
              simp only [m_ts_it110] at hb
              exact hb
          exact (lp110 ((mrn σ) - 0) 0 rfl (by omega))
        · have n_68 : ¬ (mrn σ) ≤ k := fun q => c_68 ((nI_leI (by omega) (by omega)).mpr q)
          refine pr_aload_n hA dX8_ticks_71 rfl ?_
          refine pr_iload_n hA dX8_ticks_72 rfl ?_
          refine pr_iconst hA (4) dX8_ticks_73 (by decide) ?_
          refine pr_callVi hA [.int (nI k), .int (4 : Int32)] (c_m_req (m := m) (k := k) (c := 4) (σ := (m_ts_it60 σ k)) (pr_hl hA) hm (by omega) (by omega)) v_X8_229 (mo_k0 hm) (by decide) rfl rfl rfl (by decide) (Nat.zero_le _) (Nat.zero_le _) rfl (Nat.le_of_ble_eq_true rfl) dX8_ticks_74 ?_
          refine pr_iconst hA (2) dX8_ticks_77 (by decide) ?_
          refine pr_icmp_ne hA 102 dX8_ticks_78 (by decide) (fun c_78 => ?_) (fun c_78 => ?_)
          · refine pr_iinc (ls' := [_, _]) hA (nI (k + 1)) dX8_ticks_102 (by decide) rfl (nI_inc _) rfl ?_
            refine pr_goto hA 60 dX8_ticks_105 (by decide) ?_
            have hb := ih60 ((mrn σ) - (k + 1)) (by omega) (k + 1) rfl (by omega)
            simp only [m_ts_it60, if_neg c_78] at hb
            exact hb
          · refine pr_aload_n hA dX8_ticks_81 rfl ?_
            refine pr_iload_n hA dX8_ticks_82 rfl ?_
            refine pr_bipush hA (11) dX8_ticks_83 (by decide) ?_
            refine pr_callVi hA [.int (nI k), .int (11 : Int32)] (c_m_req (m := m) (k := k) (c := 11) (σ := (m_ts_it60 σ k)) (pr_hl hA) hm (by omega) (by omega)) v_X8_229 (mo_k0 hm) (by decide) rfl rfl rfl (by decide) (Nat.zero_le _) (Nat.zero_le _) rfl (Nat.le_of_ble_eq_true rfl) dX8_ticks_85 ?_
            refine pr_aload_n hA dX8_ticks_88 rfl ?_
            refine pr_getR hA f_X8_9 rfl (mo_k0 hm) (mo_f0_0 hm) dX8_ticks_89 ?_
            refine pr_iconst hA (nI 0) dX8_ticks_92 (by decide) ?_
            refine pr_ialdM (v := ((σ 1 0) + (1 : Int32))) hA (mo_k1 hm) (by omega) (by omega) ((rg_val (by decide)).trans ((fw_m_ts_it60 (by decide) (by decide)).trans ((fw_m_ts_it12 (by decide) (by decide)).trans pr_upe))) dX8_ticks_93 ?_
            refine pr_icmp_ne hA 102 dX8_ticks_94 (by decide) (fun c_94 => ?_) (fun c_94 => ?_)
            · refine pr_iinc (ls' := [_, _]) hA (nI (k + 1)) dX8_ticks_102 (by decide) rfl (nI_inc _) rfl ?_
              refine pr_goto hA 60 dX8_ticks_105 (by decide) ?_
              have hb := ih60 ((mrn σ) - (k + 1)) (by omega) (k + 1) rfl (by omega)
              simp only [m_ts_it60, if_pos c_78, if_neg c_94] at hb
              exact hb
            · refine pr_aload_n hA dX8_ticks_97 rfl ?_
              refine pr_iload_n hA dX8_ticks_98 rfl ?_
              have hv99 : mI (m_ts_it60 σ k) := (mI_m_ts_it60 hI k (by omega))
              refine pr_callVv hA [.int (nI k)] (c_m_end (m := m) (σ := (m_ts_it60 σ k)) (r := k) (pr_hl hA) hm hv99 (by first | omega | assumption)) v_X8_273 (mo_k0 hm) (by decide) rfl rfl rfl (by decide) (Nat.zero_le _) (Nat.zero_le _) rfl (Nat.le_of_ble_eq_true rfl) dX8_ticks_99 ?_
              refine pr_iinc (ls' := [_, _]) hA (nI (k + 1)) dX8_ticks_102 (by decide) rfl (nI_inc _) rfl ?_
              refine pr_goto hA 60 dX8_ticks_105 (by decide) ?_
              have hb := ih60 ((mrn σ) - (k + 1)) (by omega) (k + 1) rfl (by omega)
              simp only [m_ts_it60, if_pos c_78, if_pos c_94] at hb
              exact hb
      exact (lp60 ((mrn σ) - 0) 0 rfl (by omega))
    · have n_20 : ¬ (mtn σ) ≤ k := fun q => c_20 ((nI_leI (by omega) (by omega)).mpr q)
      refine pr_aload_n hA dX8_ticks_23 rfl ?_
      refine pr_iload_n hA dX8_ticks_24 rfl ?_
      refine pr_iconst hA (5) dX8_ticks_25 (by decide) ?_
      refine pr_callVi hA [.int (nI k), .int (5 : Int32)] (c_m_tick (m := m) (k := k) (c := 5) (σ := (m_ts_it12 σ k)) (pr_hl hA) hm (by omega) (by omega)) v_X8_197 (mo_k0 hm) (by decide) rfl rfl rfl (by decide) (Nat.zero_le _) (Nat.zero_le _) rfl (Nat.le_of_ble_eq_true rfl) dX8_ticks_26 ?_
      refine pr_if_ne hA 52 dX8_ticks_29 (by decide) (fun c_29 => ?_) (fun c_29 => ?_)
      · refine pr_iinc (ls' := [_, _]) hA (nI (k + 1)) dX8_ticks_52 (by decide) rfl (nI_inc _) rfl ?_
        refine pr_goto hA 12 dX8_ticks_55 (by decide) ?_
        have hb := ih12 ((mtn σ) - (k + 1)) (by omega) (k + 1) rfl (by omega)
        simp only [m_ts_it12, if_neg c_29] at hb
        exact hb
      · refine pr_aload_n hA dX8_ticks_32 rfl ?_
        refine pr_iload_n hA dX8_ticks_33 rfl ?_
        refine pr_iconst hA (4) dX8_ticks_34 (by decide) ?_
        refine pr_callVi hA [.int (nI k), .int (4 : Int32)] (c_m_tick (m := m) (k := k) (c := 4) (σ := (m_ts_it12 σ k)) (pr_hl hA) hm (by omega) (by omega)) v_X8_197 (mo_k0 hm) (by decide) rfl rfl rfl (by decide) (Nat.zero_le _) (Nat.zero_le _) rfl (Nat.le_of_ble_eq_true rfl) dX8_ticks_35 ?_
        refine pr_aload_n hA dX8_ticks_38 rfl ?_
        refine pr_getR hA f_X8_9 rfl (mo_k0 hm) (mo_f0_0 hm) dX8_ticks_39 ?_
        refine pr_iconst hA (nI 0) dX8_ticks_42 (by decide) ?_
        refine pr_ialdM (v := ((σ 1 0) + (1 : Int32))) hA (mo_k1 hm) (by omega) (by omega) ((rg_val (by decide)).trans ((fw_m_ts_it12 (by decide) (by decide)).trans pr_upe)) dX8_ticks_43 ?_
        refine pr_icmp_ne hA 52 dX8_ticks_44 (by decide) (fun c_44 => ?_) (fun c_44 => ?_)
        · refine pr_iinc (ls' := [_, _]) hA (nI (k + 1)) dX8_ticks_52 (by decide) rfl (nI_inc _) rfl ?_
          refine pr_goto hA 12 dX8_ticks_55 (by decide) ?_
          have hb := ih12 ((mtn σ) - (k + 1)) (by omega) (k + 1) rfl (by omega)
          simp only [m_ts_it12, if_pos c_29, if_neg c_44] at hb
          exact hb
        · refine pr_aload_n hA dX8_ticks_47 rfl ?_
          refine pr_iload_n hA dX8_ticks_48 rfl ?_
          have hv49 : mI (m_ts_it12 σ k) := (mI_m_ts_it12 hI k (by omega))
          refine pr_callVv hA [.int (nI k)] (c_m_exp (m := m) (σ := (m_ts_it12 σ k)) (t := k) (pr_hl hA) hm hv49 (by first | omega | assumption)) v_X8_270 (mo_k0 hm) (by decide) rfl rfl rfl (by decide) (Nat.zero_le _) (Nat.zero_le _) rfl (Nat.le_of_ble_eq_true rfl) dX8_ticks_49 ?_
          refine pr_iinc (ls' := [_, _]) hA (nI (k + 1)) dX8_ticks_52 (by decide) rfl (nI_inc _) rfl ?_
          refine pr_goto hA 12 dX8_ticks_55 (by decide) ?_
          have hb := ih12 ((mtn σ) - (k + 1)) (by omega) (k + 1) rfl (by omega)
          simp only [m_ts_it12, if_pos c_29, if_pos c_44] at hb
          exact hb
  exact (lp12 ((mtn σ) - 0) 0 rfl (by omega))

theorem fr_m_ts {σ : pr_I}  {o : Nat} (hms : ∀ m ∈ ([0, 1, 8, 9, 10] : List Nat), o ≠ m) : m_ts σ o = σ o := by
  unfold m_ts
  simp only [List.mem_cons, List.not_mem_nil, or_false, forall_eq_or_imp, forall_eq] at hms
  rw [fr_m_ts_it110 (by simp only [List.mem_cons, List.not_mem_nil, or_false, forall_eq_or_imp, forall_eq]; omega), fr_m_ts_it60 (by simp only [List.mem_cons, List.not_mem_nil, or_false, forall_eq_or_imp, forall_eq]; omega), fr_m_ts_it12 (by simp only [List.mem_cons, List.not_mem_nil, or_false, forall_eq_or_imp, forall_eq]; omega), pr_up_ne (by omega)]

theorem fw_m_ts {σ : pr_I}  {j0 : Nat} (hj : j0 < 12) (hmw : ∀ m ∈ ([0, 9] : List Nat), j0 ≠ m) : m_ts σ 1 j0 = σ 1 j0 := by
  simp only [List.mem_cons, List.not_mem_nil, or_false, forall_eq_or_imp, forall_eq] at hmw
  unfold m_ts
  exact ((fw_m_ts_it110 hj (by simp only [List.mem_cons, List.not_mem_nil, or_false, forall_eq_or_imp, forall_eq]; omega)).trans ((fw_m_ts_it60 hj (fun m hm => by cases hm)).trans ((fw_m_ts_it12 hj (fun m hm => by cases hm)).trans (pr_upk (by omega)))))
