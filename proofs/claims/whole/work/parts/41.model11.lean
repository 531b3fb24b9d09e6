def m_at_ok (σ : pr_I) (r : Nat) : Prop := m_lp_it51_e σ (σ 1 (264 + 28 * r + 1)) ((m_up_r σ (mln σ)) &&& ((σ 1 (264 + 28 * r + 9)) ^^^ ((-1) : Int32))) (sl 13) = true ∧ (¬ (m_lp σ (σ 1 (264 + 28 * r + 1)) ((m_up_r σ (mln σ)) &&& ((σ 1 (264 + 28 * r + 9)) ^^^ ((-1) : Int32)))) 8 (σ 1 (264 + 28 * r + 0)).toNatClampNeg = (1000000000 : Int32) → m_fi_it27_e σ (σ 1 (264 + 28 * r + 0)) (σ 1 (264 + 28 * r + 1)) ((m_up_r σ (mln σ)) &&& ((σ 1 (264 + 28 * r + 9)) ^^^ ((-1) : Int32))) (sl 12) = true) ∧ (¬ (m_lp σ (σ 1 (264 + 28 * r + 1)) ((m_up_r σ (mln σ)) &&& ((σ 1 (264 + 28 * r + 9)) ^^^ ((-1) : Int32)))) 8 (σ 1 (264 + 28 * r + 0)).toNatClampNeg = (1000000000 : Int32) → ∀ k, ¬ (m_fi_it27 σ (σ 1 (264 + 28 * r + 0)) (σ 1 (264 + 28 * r + 1)) ((m_up_r σ (mln σ)) &&& ((σ 1 (264 + 28 * r + 9)) ^^^ ((-1) : Int32))) k).2 = (σ 1 (264 + 28 * r + 1)) → m_fi_it36_e σ (m_fi_it27 σ (σ 1 (264 + 28 * r + 0)) (σ 1 (264 + 28 * r + 1)) ((m_up_r σ (mln σ)) &&& ((σ 1 (264 + 28 * r + 9)) ^^^ ((-1) : Int32))) k).1 (σ 1 (264 + 28 * r + 0)) (σ 1 (264 + 28 * r + 1)) ((m_up_r σ (mln σ)) &&& ((σ 1 (264 + 28 * r + 9)) ^^^ ((-1) : Int32))) k ((m_fi_it27 σ (σ 1 (264 + 28 * r + 0)) (σ 1 (264 + 28 * r + 1)) ((m_up_r σ (mln σ)) &&& ((σ 1 (264 + 28 * r + 9)) ^^^ ((-1) : Int32))) k).2) (sl 23) = true) ∧ vp_in ((m_fi σ (σ 1 (264 + 28 * r + 0)) (σ 1 (264 + 28 * r + 1)) ((m_up_r σ (mln σ)) &&& ((σ 1 (264 + 28 * r + 9)) ^^^ ((-1) : Int32)))) 0 17) 12
noncomputable def m_tr_it0 (σ : pr_I) (r : Nat) : Nat → pr_I
  | 0 => σ
  | k + 1 => (if ((m_tr_it0 σ r k) 1 (264 + 28 * r + 6)) = (σ 1 0) then (if ((m_tr_it0 σ r k) 1 (264 + 28 * r + 4)) = (7 : Int32) then (m_at (m_tr_it0 σ r k) r) else (if ((m_tr_it0 σ r k) 1 (264 + 28 * r + 4)) = 0 then (m_fw (m_tr_it0 σ r k) r) else (m_bk (m_tr_it0 σ r k) r))) else (m_tr_it0 σ r k))
theorem fr_m_tr_it0 {σ : pr_I} {r : Nat} {o : Nat} (hms : ∀ m ∈ ([0, 1, 8, 9, 10] : List Nat), o ≠ m) : ∀ {k : Nat}, (m_tr_it0 σ r k) o = σ o := by
  simp only [List.mem_cons, List.not_mem_nil, or_false, forall_eq_or_imp, forall_eq] at hms
  intro k
  induction k with
  | zero =>
    show σ o = σ o
    rfl
  | succ k ih =>
    by_cases c_13 : ((m_tr_it0 σ r k) 1 (264 + 28 * r + 6)) = (σ 1 0)
    · refine (congrFun (congrArg (fun z : pr_I => z) (if_pos c_13)) o).trans ?_
      by_cases c_24 : ((m_tr_it0 σ r k) 1 (264 + 28 * r + 4)) = (7 : Int32)
      · refine (congrFun (congrArg (fun z : pr_I => z) (if_pos c_24)) o).trans ?_
        show (m_at (m_tr_it0 σ r k) r) o = σ o
        rw [fr_m_at (by simp only [List.mem_cons, List.not_mem_nil, or_false, forall_eq_or_imp, forall_eq]; omega), ih]
      · refine (congrFun (congrArg (fun z : pr_I => z) (if_neg c_24)) o).trans ?_
        by_cases c_41 : ((m_tr_it0 σ r k) 1 (264 + 28 * r + 4)) = 0
        · refine (congrFun (congrArg (fun z : pr_I => z) (if_pos c_41)) o).trans ?_
          show (m_fw (m_tr_it0 σ r k) r) o = σ o
          rw [fr_m_fw (by simp only [List.mem_cons, List.not_mem_nil, or_false, forall_eq_or_imp, forall_eq]; omega), ih]
        · refine (congrFun (congrArg (fun z : pr_I => z) (if_neg c_41)) o).trans ?_
          show (m_bk (m_tr_it0 σ r k) r) o = σ o
          rw [fr_m_bk (by simp only [List.mem_cons, List.not_mem_nil, or_false, forall_eq_or_imp, forall_eq]; omega), ih]
    · refine (congrFun (congrArg (fun z : pr_I => z) (if_neg c_13)) o).trans ?_
      show (m_tr_it0 σ r k) o = σ o
      rw [ih]
theorem fw_m_tr_it0 {σ : pr_I} {r : Nat} {j0 : Nat} (hj : j0 < 12) (hmw : ∀ m ∈ ([9] : List Nat), j0 ≠ m) : ∀ {k : Nat}, (m_tr_it0 σ r k) 1 j0 = σ 1 j0 := by
  simp only [List.mem_cons, List.not_mem_nil, or_false, forall_eq_or_imp, forall_eq] at hmw
  intro k
  induction k with
  | zero => rfl
  | succ k ih =>
    by_cases c_13 : ((m_tr_it0 σ r k) 1 (264 + 28 * r + 6)) = (σ 1 0)
    · refine (congrArg (fun z : pr_I => z 1 j0) (if_pos c_13)).trans ?_
      by_cases c_24 : ((m_tr_it0 σ r k) 1 (264 + 28 * r + 4)) = (7 : Int32)
      · refine (congrArg (fun z : pr_I => z 1 j0) (if_pos c_24)).trans ?_
        show (m_at (m_tr_it0 σ r k) r) 1 j0 = σ 1 j0
        exact ((fw_m_at hj (fun m hm => by cases hm)).trans ih)
      · refine (congrArg (fun z : pr_I => z 1 j0) (if_neg c_24)).trans ?_
        by_cases c_41 : ((m_tr_it0 σ r k) 1 (264 + 28 * r + 4)) = 0
        · refine (congrArg (fun z : pr_I => z 1 j0) (if_pos c_41)).trans ?_
          show (m_fw (m_tr_it0 σ r k) r) 1 j0 = σ 1 j0
          exact ((fw_m_fw hj (by simp only [List.mem_cons, List.not_mem_nil, or_false, forall_eq_or_imp, forall_eq]; omega)).trans ih)
        · refine (congrArg (fun z : pr_I => z 1 j0) (if_neg c_41)).trans ?_
          show (m_bk (m_tr_it0 σ r k) r) 1 j0 = σ 1 j0
          exact ((fw_m_bk hj (fun m hm => by cases hm)).trans ih)
    · refine (congrArg (fun z : pr_I => z 1 j0) (if_neg c_13)).trans ?_
      show (m_tr_it0 σ r k) 1 j0 = σ 1 j0
      exact ih

noncomputable def m_tr_it0_e (σ : pr_I) (r : Nat) (k : Nat) : Bool := (if ((m_tr_it0 σ r k) 1 (264 + 28 * r + 6)) = (σ 1 0) then (if ((m_tr_it0 σ r k) 1 (264 + 28 * r + 4)) = (7 : Int32) then false else (if ((m_tr_it0 σ r k) 1 (264 + 28 * r + 4)) = 0 then false else false)) else true)
theorem st_m_tr_it0_13 {σ : pr_I} {r : Nat} {k : Nat} (c_13 : ¬ (((m_tr_it0 σ r k) 1 (264 + 28 * r + 6)) = (σ 1 0))) : ∀ j, m_tr_it0 σ r (k + j) = m_tr_it0 σ r k
  | 0 => rfl
  | j + 1 => by
    have ih := st_m_tr_it0_13 c_13 j
    show m_tr_it0 σ r ((k + j) + 1) = m_tr_it0 σ r k
    simp only [m_tr_it0, ih, if_neg c_13]
noncomputable def m_tr (σ : pr_I) (r : Nat) : pr_I := (m_tr_it0 σ r (sl 5))
theorem mI_m_tr_it0 {σ : pr_I} {r : Nat} (hr : r < 40) (hI : mI σ) (hat : ∀ k, (m_tr_it0 σ r k) 1 (264 + 28 * r + 6) = σ 1 0 → (m_tr_it0 σ r k) 1 (264 + 28 * r + 4) = (7 : Int32) → m_at_ok (m_tr_it0 σ r k) r) (hfw : ∀ k, (m_tr_it0 σ r k) 1 (264 + 28 * r + 6) = σ 1 0 → (m_tr_it0 σ r k) 1 (264 + 28 * r + 4) = 0 → ¬ (m_tr_it0 σ r k) 1 (264 + 28 * r + 14) = (m_tr_it0 σ r k) 1 (264 + 28 * r + 13) → vp_in ((m_tr_it0 σ r k) 1 (264 + 28 * r + 14)) 11) (hbk : ∀ k, (m_tr_it0 σ r k) 1 (264 + 28 * r + 6) = σ 1 0 → ¬ (m_tr_it0 σ r k) 1 (264 + 28 * r + 4) = (7 : Int32) → ¬ (m_tr_it0 σ r k) 1 (264 + 28 * r + 4) = 0 → vp_in (m_tof_r (m_tr_it0 σ r k) r ((m_tr_it0 σ r k) 1 (264 + 28 * r + (15 + (((m_tr_it0 σ r k) 1 (264 + 28 * r + 14)).toNatClampNeg - 1))))) 500) : ∀ k, mI (m_tr_it0 σ r k)
  | 0 => hI
  | k + 1 => by
    have ih := mI_m_tr_it0 hr hI hat hfw hbk k
    unfold m_tr_it0
    exact I_iteh (P := mI) (fun c => I_iteh (P := mI) (fun d => mI_m_at hr (hat k c d).2.2.2 ih) (fun d => I_iteh (P := mI) (fun e => mI_m_fw hr (hfw k c e) ih) (fun e => mI_m_bk hr (hbk k c d e) ih))) (fun _ => ih)
set_option maxRecDepth 100000 in
set_option maxHeartbeats 400000 in
theorem c_m_tr {g : pr_C} {l : Launch} (hl : l.stackTraces = false) {T : pr_T} {I : pr_I} {L : pr_L} {m : Nat} {σ : pr_I} {r : Nat} (hm : pr_Mo T m) (hI : mI σ) (hr : r < 40) (hat : ∀ k, (m_tr_it0 σ r k) 1 (264 + 28 * r + 6) = σ 1 0 → (m_tr_it0 σ r k) 1 (264 + 28 * r + 4) = (7 : Int32) → m_at_ok (m_tr_it0 σ r k) r) (hfw : ∀ k, (m_tr_it0 σ r k) 1 (264 + 28 * r + 6) = σ 1 0 → (m_tr_it0 σ r k) 1 (264 + 28 * r + 4) = 0 → ¬ (m_tr_it0 σ r k) 1 (264 + 28 * r + 14) = (m_tr_it0 σ r k) 1 (264 + 28 * r + 13) → vp_in ((m_tr_it0 σ r k) 1 (264 + 28 * r + 14)) 11) (hbk : ∀ k, (m_tr_it0 σ r k) 1 (264 + 28 * r + 6) = σ 1 0 → ¬ (m_tr_it0 σ r k) 1 (264 + 28 * r + 4) = (7 : Int32) → ¬ (m_tr_it0 σ r k) 1 (264 + 28 * r + 4) = 0 → vp_in (m_tof_r (m_tr_it0 σ r k) r ((m_tr_it0 σ r k) 1 (264 + 28 * r + (15 + (((m_tr_it0 σ r k) 1 (264 + 28 * r + 14)).toNatClampNeg - 1))))) 500) (hend : m_tr_it0_e σ r (sl 5) = true) : pr_M g l 7 0 0 mX8_treats [.ref m, .int (nI r)] T (rg_put I m 16 σ) L (pr_R none T (rg_put I m 16 (m_tr σ r)) L) pr_no := by
  refine pr_ofG (by decide) rfl hl (Nat.le_of_ble_eq_true rfl) (fun X hA hX hXn hXt => ?_)
  subst hX
  show pr_G g X mX8_treats.2.2.1 _ 0 0 0 [.ref m, .int (nI r)] [] T (rg_put I m 16 σ) L
  have hn5 := mI_n5 hI
  have hr4 := mI_nr4 hI
  have hl24 := mI_nl24 hI
  have hn12 := mI_nn12 hI
  have hsl5 := sl_eq 5
  have lp0 : ∀ (j k : Nat), (sl 5) - k = j → k ≤ (sl 5) → pr_G g X mX8_treats.2.2.1 (pr_MQ g X (pr_R none T (rg_put I m 16 (m_tr σ r)) L) pr_no 0 0) 0 0 0 [.ref m, .int (nI r)] [] T (rg_put I m 16 (m_tr_it0 σ r k)) L := by
    intro j
    induction j using Nat.strongRecOn with | ind j ih0 =>
    intro k hj0 hk0
    refine pr_aload_n hA dX8_treats_0 rfl ?_
    refine pr_iload_n hA dX8_treats_1 rfl ?_
    refine pr_bipush hA (6) dX8_treats_2 (by decide) ?_
    refine pr_callVi hA [.int (nI r), .int (6 : Int32)] (c_m_req (m := m) (k := r) (c := 6) (σ := (m_tr_it0 σ r k)) (pr_hl hA) hm (by omega) (by omega)) v_X8_229 (mo_k0 hm) (by decide) rfl rfl rfl (by decide) (Nat.zero_le _) (Nat.zero_le _) rfl (Nat.le_of_ble_eq_true rfl) dX8_treats_4 ?_
    refine pr_aload_n hA dX8_treats_7 rfl ?_
    refine pr_getR hA f_X8_9 rfl (mo_k0 hm) (mo_f0_0 hm) dX8_treats_8 ?_
    refine pr_iconst hA (nI 0) dX8_treats_11 (by decide) ?_
    refine pr_ialdM (v := (σ 1 0)) hA (mo_k1 hm) (by omega) (by omega) ((rg_val (by decide)).trans (fw_m_tr_it0 (by decide) (by decide))) dX8_treats_12 ?_
    refine pr_icmp_ne hA 60 dX8_treats_13 (by decide) (fun c_13 => ?_) (fun c_13 => ?_)
    · have hst := st_m_tr_it0_13 c_13 ((sl 5) - k)
      rw [show k + ((sl 5) - k) = (sl 5) from by omega] at hst
      refine pr_lessL (ls' := [.ref m, .int (nI r)]) ⟨.inr rfl, .inr rfl, trivial⟩ ?_
      rw [← hst]
      exact pr_return hA rfl (Nat.zero_le _) (Nat.zero_le _) dX8_treats_60 ⟨rfl, rfl, rfl, rfl⟩
    · refine pr_aload_n hA dX8_treats_16 rfl ?_
      refine pr_iload_n hA dX8_treats_17 rfl ?_
      refine pr_iconst hA (4) dX8_treats_18 (by decide) ?_
      refine pr_callVi hA [.int (nI r), .int (4 : Int32)] (c_m_req (m := m) (k := r) (c := 4) (σ := (m_tr_it0 σ r k)) (pr_hl hA) hm (by omega) (by omega)) v_X8_229 (mo_k0 hm) (by decide) rfl rfl rfl (by decide) (Nat.zero_le _) (Nat.zero_le _) rfl (Nat.le_of_ble_eq_true rfl) dX8_treats_19 ?_
      refine pr_bipush hA (7) dX8_treats_22 (by decide) ?_
      refine pr_icmp_ne hA 35 dX8_treats_24 (by decide) (fun c_24 => ?_) (fun c_24 => ?_)
      · refine pr_aload_n hA dX8_treats_35 rfl ?_
        refine pr_iload_n hA dX8_treats_36 rfl ?_
        refine pr_iconst hA (4) dX8_treats_37 (by decide) ?_
        refine pr_callVi hA [.int (nI r), .int (4 : Int32)] (c_m_req (m := m) (k := r) (c := 4) (σ := (m_tr_it0 σ r k)) (pr_hl hA) hm (by omega) (by omega)) v_X8_229 (mo_k0 hm) (by decide) rfl rfl rfl (by decide) (Nat.zero_le _) (Nat.zero_le _) rfl (Nat.le_of_ble_eq_true rfl) dX8_treats_38 ?_
        refine pr_if_ne hA 52 dX8_treats_41 (by decide) (fun c_41 => ?_) (fun c_41 => ?_)
        · refine pr_aload_n hA dX8_treats_52 rfl ?_
          refine pr_iload_n hA dX8_treats_53 rfl ?_
          have hv54 : mI (m_tr_it0 σ r k) := (mI_m_tr_it0 hr hI hat hfw hbk k)
          refine pr_callVv hA [.int (nI r)] (c_m_bk (m := m) (σ := (m_tr_it0 σ r k)) (r := r) (pr_hl hA) hm hv54 (by first | omega | assumption) (hbk k c_13 c_24 c_41)) v_X8_267 (mo_k0 hm) (by decide) rfl rfl rfl (by decide) (Nat.zero_le _) (Nat.zero_le _) rfl (Nat.le_of_ble_eq_true rfl) dX8_treats_54 ?_
          refine pr_goto hA 0 dX8_treats_57 (by decide) ?_
          have hlt : k < (sl 5) := by
            rcases Nat.lt_or_ge k (sl 5) with hlt0 | hlt0
            · exact hlt0
            · have e : k = (sl 5) := by omega
              exact absurd hend (by rw [← e]; simp only [m_tr_it0_e, if_pos c_13, if_neg c_24, if_neg c_41]; decide)
          have hb := ih0 ((sl 5) - (k + 1)) (by omega) (k + 1) rfl (by omega)
          simp only [m_tr_it0, if_pos c_13, if_neg c_24, if_neg c_41] at hb
          exact hb
        · refine pr_aload_n hA dX8_treats_44 rfl ?_
          refine pr_iload_n hA dX8_treats_45 rfl ?_
          have hv46 : mI (m_tr_it0 σ r k) := (mI_m_tr_it0 hr hI hat hfw hbk k)
          refine pr_callVv hA [.int (nI r)] (c_m_fw (m := m) (σ := (m_tr_it0 σ r k)) (r := r) (pr_hl hA) hm hv46 (by first | omega | assumption) (hfw k c_13 c_41)) v_X8_264 (mo_k0 hm) (by decide) rfl rfl rfl (by decide) (Nat.zero_le _) (Nat.zero_le _) rfl (Nat.le_of_ble_eq_true rfl) dX8_treats_46 ?_
          refine pr_goto hA 0 dX8_treats_49 (by decide) ?_
          have hlt : k < (sl 5) := by
            rcases Nat.lt_or_ge k (sl 5) with hlt0 | hlt0
            · exact hlt0
            · have e : k = (sl 5) := by omega
              exact absurd hend (by rw [← e]; simp only [m_tr_it0_e, if_pos c_13, if_neg c_24, if_pos c_41]; decide)
          have hb := ih0 ((sl 5) - (k + 1)) (by omega) (k + 1) rfl (by omega)
          simp only [m_tr_it0, if_pos c_13, if_neg c_24, if_pos c_41] at hb
          exact hb
      · refine pr_aload_n hA dX8_treats_27 rfl ?_
        refine pr_iload_n hA dX8_treats_28 rfl ?_
        have hv29 : mI (m_tr_it0 σ r k) := (mI_m_tr_it0 hr hI hat hfw hbk k)
        refine pr_callVv hA [.int (nI r)] (c_m_at (m := m) (σ := (m_tr_it0 σ r k)) (r := r) (pr_hl hA) hm hv29 (by first | omega | assumption) (hat k c_13 c_24).1 (hat k c_13 c_24).2.1 (hat k c_13 c_24).2.2.1) v_X8_260 (mo_k0 hm) (by decide) rfl rfl rfl (by decide) (Nat.zero_le _) (Nat.zero_le _) rfl (Nat.le_of_ble_eq_true rfl) dX8_treats_29 ?_
        refine pr_goto hA 0 dX8_treats_32 (by decide) ?_
        have hlt : k < (sl 5) := by
          rcases Nat.lt_or_ge k (sl 5) with hlt0 | hlt0
          · exact hlt0
          · have e : k = (sl 5) := by omega
            exact absurd hend (by rw [← e]; simp only [m_tr_it0_e, if_pos c_13, if_pos c_24]; decide)
        have hb := ih0 ((sl 5) - (k + 1)) (by omega) (k + 1) rfl (by omega)
        simp only [m_tr_it0, if_pos c_13, if_pos c_24] at hb
        exact hb
  exact (lp0 ((sl 5) - 0) 0 rfl (by omega))

theorem fr_m_tr {σ : pr_I} {r : Nat} {o : Nat} (hms : ∀ m ∈ ([0, 1, 8, 9, 10] : List Nat), o ≠ m) : m_tr σ r o = σ o := by
  unfold m_tr
  simp only [List.mem_cons, List.not_mem_nil, or_false, forall_eq_or_imp, forall_eq] at hms
  rw [fr_m_tr_it0 (by simp only [List.mem_cons, List.not_mem_nil, or_false, forall_eq_or_imp, forall_eq]; omega)]

theorem fw_m_tr {σ : pr_I} {r : Nat} {j0 : Nat} (hj : j0 < 12) (hmw : ∀ m ∈ ([9] : List Nat), j0 ≠ m) : m_tr σ r 1 j0 = σ 1 j0 := by
  simp only [List.mem_cons, List.not_mem_nil, or_false, forall_eq_or_imp, forall_eq] at hmw
  unfold m_tr
  exact (fw_m_tr_it0 hj (by simp only [List.mem_cons, List.not_mem_nil, or_false, forall_eq_or_imp, forall_eq]; omega))
