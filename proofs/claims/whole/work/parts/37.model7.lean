noncomputable def m_br_it2 (σ : pr_I) (r : Nat) : Nat → pr_I
  | 0 => σ
  | k + 1 => (if ((m_br_it2 σ r k) 1 (1384 + 8 * k + 0)) = (nI r) then (if (m_kept_r (m_br_it2 σ r k) k) = 0 then (m_br_it2 σ r k) else (m_gb (pr_up (m_br_it2 σ r k) 1 (1384 + 8 * k + 5) (3 : Int32)) k (m_un_r (pr_up (m_br_it2 σ r k) 1 (1384 + 8 * k + 5) (3 : Int32)) r k))) else (m_br_it2 σ r k))
theorem fr_m_br_it2 {σ : pr_I} {r : Nat} {o : Nat} (hms : ∀ m ∈ ([1] : List Nat), o ≠ m) : ∀ {k : Nat}, (m_br_it2 σ r k) o = σ o := by
  simp only [List.mem_cons, List.not_mem_nil, or_false, forall_eq_or_imp, forall_eq] at hms
  intro k
  induction k with
  | zero =>
    show σ o = σ o
    rfl
  | succ k ih =>
    by_cases c_20 : ((m_br_it2 σ r k) 1 (1384 + 8 * k + 0)) = (nI r)
    · refine (congrFun (congrArg (fun z : pr_I => z) (if_pos c_20)) o).trans ?_
      by_cases c_28 : (m_kept_r (m_br_it2 σ r k) k) = 0
      · refine (congrFun (congrArg (fun z : pr_I => z) (if_pos c_28)) o).trans ?_
        show (m_br_it2 σ r k) o = σ o
        rw [ih]
      · refine (congrFun (congrArg (fun z : pr_I => z) (if_neg c_28)) o).trans ?_
        show (m_gb (pr_up (m_br_it2 σ r k) 1 (1384 + 8 * k + 5) (3 : Int32)) k (m_un_r (pr_up (m_br_it2 σ r k) 1 (1384 + 8 * k + 5) (3 : Int32)) r k)) o = σ o
        rw [fr_m_gb (by simp only [List.mem_cons, List.not_mem_nil, or_false, forall_eq_or_imp, forall_eq]; omega), pr_up_ne (by omega), ih]
    · refine (congrFun (congrArg (fun z : pr_I => z) (if_neg c_20)) o).trans ?_
      show (m_br_it2 σ r k) o = σ o
      rw [ih]
theorem fw_m_br_it2 {σ : pr_I} {r : Nat} {j0 : Nat} (hj : j0 < 12) (hmw : ∀ m ∈ ([] : List Nat), j0 ≠ m) : ∀ {k : Nat}, (m_br_it2 σ r k) 1 j0 = σ 1 j0 := by
  intro k
  induction k with
  | zero => rfl
  | succ k ih =>
    by_cases c_20 : ((m_br_it2 σ r k) 1 (1384 + 8 * k + 0)) = (nI r)
    · refine (congrArg (fun z : pr_I => z 1 j0) (if_pos c_20)).trans ?_
      by_cases c_28 : (m_kept_r (m_br_it2 σ r k) k) = 0
      · refine (congrArg (fun z : pr_I => z 1 j0) (if_pos c_28)).trans ?_
        show (m_br_it2 σ r k) 1 j0 = σ 1 j0
        exact ih
      · refine (congrArg (fun z : pr_I => z 1 j0) (if_neg c_28)).trans ?_
        show (m_gb (pr_up (m_br_it2 σ r k) 1 (1384 + 8 * k + 5) (3 : Int32)) k (m_un_r (pr_up (m_br_it2 σ r k) 1 (1384 + 8 * k + 5) (3 : Int32)) r k)) 1 j0 = σ 1 j0
        exact ((fw_m_gb hj (fun m hm => by cases hm)).trans ((pr_upk (by omega)).trans ih))
    · refine (congrArg (fun z : pr_I => z 1 j0) (if_neg c_20)).trans ?_
      show (m_br_it2 σ r k) 1 j0 = σ 1 j0
      exact ih

noncomputable def m_br (σ : pr_I) (r : Nat) : pr_I := (m_st (m_br_it2 σ r (mtn σ)) r (6 : Int32))
theorem mI_m_br_it2 {σ : pr_I} {r : Nat} (hI : mI σ) : ∀ k, k ≤ 500 → mI (m_br_it2 σ r k)
  | 0, _ => hI
  | k + 1, hk => by
    have ih := mI_m_br_it2 (r := r) hI k (by omega)
    unfold m_br_it2
    refine I_ite (P := mI) (I_ite (P := mI) ih (mI_m_gb (by omega) (mI.upn ih ((mW_tick (by omega) (by decide)).trans rfl)))) ih
set_option maxRecDepth 100000 in
set_option maxHeartbeats 400000 in
theorem c_m_br {g : pr_C} {l : Launch} (hl : l.stackTraces = false) {T : pr_T} {I : pr_I} {L : pr_L} {m : Nat} {σ : pr_I} {r : Nat} (hm : pr_Mo T m) (hI : mI σ) (hr : r < 40) (hne : ∀ k, k < mtn σ → ((m_br_it2 σ r k) 1 (264 + 28 * r + 3)).toInt64 ≠ 0) : pr_M g l 5 0 0 mX8_breaks [.ref m, .int (nI r)] T (rg_put I m 16 σ) L (pr_R none T (rg_put I m 16 (m_br σ r)) L) pr_no := by
  refine pr_ofG (by decide) rfl hl (Nat.le_of_ble_eq_true rfl) (fun X hA hX hXn hXt => ?_)
  subst hX
  show pr_G g X mX8_breaks.2.2.1 _ 0 0 0 [.ref m, .int (nI r), .null] [] T (rg_put I m 16 σ) L
  have hn5 := mI_n5 hI
  have hr4 := mI_nr4 hI
  have hl24 := mI_nl24 hI
  have hn12 := mI_nn12 hI
  refine pr_iconst hA (nI 0) dX8_breaks_0 (by decide) ?_
  refine pr_istore_n (ls' := [_, _, _]) hA dX8_breaks_1 (by decide) rfl ?_
  have lp2 : ∀ (j k : Nat), (mtn σ) - k = j → k ≤ (mtn σ) → pr_G g X mX8_breaks.2.2.1 (pr_MQ g X (pr_R none T (rg_put I m 16 (m_br σ r)) L) pr_no 0 0) 0 0 2 [.ref m, .int (nI r), .int (nI k)] [] T (rg_put I m 16 (m_br_it2 σ r k)) L := by
    intro j
    induction j using Nat.strongRecOn with | ind j ih2 =>
    intro k hj2 hk2
    refine pr_iload_n hA dX8_breaks_2 rfl ?_
    refine pr_aload_n hA dX8_breaks_3 rfl ?_
    refine pr_getR hA f_X8_9 rfl (mo_k0 hm) (mo_f0_0 hm) dX8_breaks_4 ?_
    refine pr_bipush hA (nI 9) dX8_breaks_7 (by decide) ?_
    refine pr_ialdM (v := (nI (mtn σ))) hA (mo_k1 hm) (by omega) (by omega) ((rg_val (by decide)).trans ((fw_m_br_it2 (by decide) (by decide)).trans (mI_n hI))) dX8_breaks_9 ?_
    refine pr_icmp_ge hA 58 dX8_breaks_10 (by decide) (fun c_10 => ?_) (fun c_10 => ?_)
    · have n_10 : (mtn σ) ≤ k := (nI_leI (by omega) (by omega)).mp c_10
      have hex : (mtn σ) = k := by omega
      subst hex
      refine pr_aload_n hA dX8_breaks_58 rfl ?_
      refine pr_iload_n hA dX8_breaks_59 rfl ?_
      refine pr_bipush hA (6) dX8_breaks_60 (by decide) ?_
      have hv62 : mI (m_br_it2 σ r (mtn σ)) := (mI_m_br_it2 (σ := σ) (r := r) hI (mtn σ) (by omega))
      refine pr_callVv hA [.int (nI r), .int (6 : Int32)] (c_m_st (m := m) (σ := (m_br_it2 σ r (mtn σ))) (r := r) (z := (6 : Int32)) (pr_hl hA) hm hv62 (by first | omega | assumption)) v_X8_325 (mo_k0 hm) (by decide) rfl rfl rfl (by decide) (Nat.zero_le _) (Nat.zero_le _) rfl (Nat.le_of_ble_eq_true rfl) dX8_breaks_62 ?_
      exact pr_return hA rfl (Nat.zero_le _) (Nat.zero_le _) dX8_breaks_65 ⟨rfl, rfl, rfl, rfl⟩
    · have n_10 : ¬ (mtn σ) ≤ k := fun q => c_10 ((nI_leI (by omega) (by omega)).mpr q)
      refine pr_aload_n hA dX8_breaks_13 rfl ?_
      refine pr_iload_n hA dX8_breaks_14 rfl ?_
      refine pr_iconst hA (0) dX8_breaks_15 (by decide) ?_
      refine pr_callVi hA [.int (nI k), .int (0 : Int32)] (c_m_tick (m := m) (k := k) (c := 0) (σ := (m_br_it2 σ r k)) (pr_hl hA) hm (by omega) (by omega)) v_X8_197 (mo_k0 hm) (by decide) rfl rfl rfl (by decide) (Nat.zero_le _) (Nat.zero_le _) rfl (Nat.le_of_ble_eq_true rfl) dX8_breaks_16 ?_
      refine pr_iload_n hA dX8_breaks_19 rfl ?_
      refine pr_icmp_ne hA 52 dX8_breaks_20 (by decide) (fun c_20 => ?_) (fun c_20 => ?_)
      · refine pr_iinc (ls' := [_, _, _]) hA (nI (k + 1)) dX8_breaks_52 (by decide) rfl (nI_inc _) rfl ?_
        refine pr_goto hA 2 dX8_breaks_55 (by decide) ?_
        have hb := ih2 ((mtn σ) - (k + 1)) (by omega) (k + 1) rfl (by omega)
        simp only [m_br_it2, if_neg c_20] at hb
        exact hb
      · refine pr_aload_n hA dX8_breaks_23 rfl ?_
        refine pr_iload_n hA dX8_breaks_24 rfl ?_
        refine pr_callVi hA [.int (nI k)] (c_m_kept (m := m) (σ := (m_br_it2 σ r k)) (t := k) (pr_hl hA) hm (by omega)) v_X8_201 (mo_k0 hm) (by decide) rfl rfl rfl (by decide) (Nat.zero_le _) (Nat.zero_le _) rfl (Nat.le_of_ble_eq_true rfl) dX8_breaks_25 ?_
        refine pr_if_ne hA 34 dX8_breaks_28 (by decide) (fun c_28 => ?_) (fun c_28 => ?_)
        · refine pr_aload_n hA dX8_breaks_34 rfl ?_
          refine pr_iload_n hA dX8_breaks_35 rfl ?_
          refine pr_iconst hA (5) dX8_breaks_36 (by decide) ?_
          refine pr_iconst hA (3) dX8_breaks_37 (by decide) ?_
          refine pr_callVv hA [.int (nI k), .int (5 : Int32), .int (3 : Int32)] (c_m_putTick (m := m) (k := k) (c := 5) (σ := (m_br_it2 σ r k)) (pr_hl hA) hm (by omega) (by omega)) v_X8_242 (mo_k0 hm) (by decide) rfl rfl rfl (by decide) (Nat.zero_le _) (Nat.zero_le _) rfl (Nat.le_of_ble_eq_true rfl) dX8_breaks_38 ?_
          refine pr_aload_n hA dX8_breaks_41 rfl ?_
          refine pr_iload_n hA dX8_breaks_42 rfl ?_
          refine pr_aload_n hA dX8_breaks_43 rfl ?_
          refine pr_iload_n hA dX8_breaks_44 rfl ?_
          refine pr_iload_n hA dX8_breaks_45 rfl ?_
          have hv46 : mI (pr_up (m_br_it2 σ r k) 1 (1384 + 8 * k + 5) (3 : Int32)) := (mI.upn (mI_m_br_it2 (σ := σ) (r := r) hI k (by omega)) ((mW_tick (by omega) (by decide)).trans rfl))
          refine pr_callVi hA [.int (nI r), .int (nI k)] (c_m_un (m := m) (σ := (pr_up (m_br_it2 σ r k) 1 (1384 + 8 * k + 5) (3 : Int32))) (r := r) (t := k) (pr_hl hA) hm hv46 (by first | omega | assumption) (by first | omega | assumption) (by rw [pr_upk (by omega)]; exact hne k (by omega))) v_X8_322 (mo_k0 hm) (by decide) rfl rfl rfl (by decide) (Nat.zero_le _) (Nat.zero_le _) rfl (Nat.le_of_ble_eq_true rfl) dX8_breaks_46 ?_
          have hv49 : mI (pr_up (m_br_it2 σ r k) 1 (1384 + 8 * k + 5) (3 : Int32)) := (mI.upn (mI_m_br_it2 (σ := σ) (r := r) hI k (by omega)) ((mW_tick (by omega) (by decide)).trans rfl))
          refine pr_callVv hA [.int (nI k), .int (m_un_r (pr_up (m_br_it2 σ r k) 1 (1384 + 8 * k + 5) (3 : Int32)) r k)] (c_m_gb (m := m) (σ := (pr_up (m_br_it2 σ r k) 1 (1384 + 8 * k + 5) (3 : Int32))) (t := k) (z := (m_un_r (pr_up (m_br_it2 σ r k) 1 (1384 + 8 * k + 5) (3 : Int32)) r k)) (pr_hl hA) hm hv49 (by first | omega | assumption)) v_X8_257 (mo_k0 hm) (by decide) rfl rfl rfl (by decide) (Nat.zero_le _) (Nat.zero_le _) rfl (Nat.le_of_ble_eq_true rfl) dX8_breaks_49 ?_
          refine pr_iinc (ls' := [_, _, _]) hA (nI (k + 1)) dX8_breaks_52 (by decide) rfl (nI_inc _) rfl ?_
          refine pr_goto hA 2 dX8_breaks_55 (by decide) ?_
          have hb := ih2 ((mtn σ) - (k + 1)) (by omega) (k + 1) rfl (by omega)
          simp only [m_br_it2, if_pos c_20, if_neg c_28] at hb
          exact hb
        · refine pr_goto hA 52 dX8_breaks_31 (by decide) ?_
          refine pr_iinc (ls' := [_, _, _]) hA (nI (k + 1)) dX8_breaks_52 (by decide) rfl (nI_inc _) rfl ?_
          refine pr_goto hA 2 dX8_breaks_55 (by decide) ?_
          have hb := ih2 ((mtn σ) - (k + 1)) (by omega) (k + 1) rfl (by omega)
          simp only [m_br_it2, if_pos c_20, if_pos c_28] at hb
          exact hb
  exact (lp2 ((mtn σ) - 0) 0 rfl (by omega))

theorem fr_m_br {σ : pr_I} {r : Nat} {o : Nat} (hms : ∀ m ∈ ([1] : List Nat), o ≠ m) : m_br σ r o = σ o := by
  unfold m_br
  simp only [List.mem_cons, List.not_mem_nil, or_false, forall_eq_or_imp, forall_eq] at hms
  rw [fr_m_st (by simp only [List.mem_cons, List.not_mem_nil, or_false, forall_eq_or_imp, forall_eq]; omega), fr_m_br_it2 (by simp only [List.mem_cons, List.not_mem_nil, or_false, forall_eq_or_imp, forall_eq]; omega)]

theorem fw_m_br {σ : pr_I} {r : Nat} {j0 : Nat} (hj : j0 < 12) (hmw : ∀ m ∈ ([] : List Nat), j0 ≠ m) : m_br σ r 1 j0 = σ 1 j0 := by
  unfold m_br
  exact ((fw_m_st hj (fun m hm => by cases hm)).trans (fw_m_br_it2 hj (fun m hm => by cases hm)))
theorem mI_m_br {σ : pr_I} {r : Nat} (hr : r < 40) (hI : mI σ) : mI (m_br σ r) := by
  have h0 := mI_m_br_it2 (r := r) hI (mtn σ) (mI_n5 hI)
  have q : ∀ {c : Nat} {S : pr_I} {v : Int32}, c < 28 → mR c = none → mI S → mI (pr_up S 1 (264 + 28 * r + c) v) := fun hc e h => mI.upn h ((mW_req hr hc).trans e)
  unfold m_br m_st
  exact q (by decide) rfl (q (by decide) rfl (q (by decide) rfl h0))
noncomputable def m_dn_it19 (σ : pr_I) (lk : Nat) : Nat → pr_I × Int32
  | 0 => ((pr_up σ 1 (96 + 7 * lk + 5) (0 : Int32)), (0 : Int32))
  | k + 1 => (if (m_has1_r (m_dn_it19 σ lk k).1 k (nI lk)) = 0 then ((m_dn_it19 σ lk k).1, ((m_dn_it19 σ lk k).2)) else (if ((m_dn_it19 σ lk k).1 1 (264 + 28 * k + 4)) = (2 : Int32) then ((m_br (m_dn_it19 σ lk k).1 k), (((m_dn_it19 σ lk k).2) + Int32.ofInt (1))) else ((m_fa (m_dn_it19 σ lk k).1 k (nI lk)), (((m_dn_it19 σ lk k).2) + Int32.ofInt (1)))))
theorem fr_m_dn_it19 {σ : pr_I} {lk : Nat} {o : Nat} (hms : ∀ m ∈ ([1] : List Nat), o ≠ m) : ∀ {k : Nat}, (m_dn_it19 σ lk k).1 o = (pr_up σ 1 (96 + 7 * lk + 5) (0 : Int32)) o := by
  simp only [List.mem_cons, List.not_mem_nil, or_false, forall_eq_or_imp, forall_eq] at hms
  intro k
  induction k with
  | zero =>
    show (pr_up σ 1 (96 + 7 * lk + 5) (0 : Int32)) o = (pr_up σ 1 (96 + 7 * lk + 5) (0 : Int32)) o
    rfl
  | succ k ih =>
    by_cases c_36 : (m_has1_r (m_dn_it19 σ lk k).1 k (nI lk)) = 0
    · refine (congrFun (congrArg (fun z : pr_I × Int32 => z.1) (if_pos c_36)) o).trans ?_
      show (m_dn_it19 σ lk k).1 o = (pr_up σ 1 (96 + 7 * lk + 5) (0 : Int32)) o
      rw [ih]
    · refine (congrFun (congrArg (fun z : pr_I × Int32 => z.1) (if_neg c_36)) o).trans ?_
      by_cases c_49 : ((m_dn_it19 σ lk k).1 1 (264 + 28 * k + 4)) = (2 : Int32)
      · refine (congrFun (congrArg (fun z : pr_I × Int32 => z.1) (if_pos c_49)) o).trans ?_
        show (m_br (m_dn_it19 σ lk k).1 k) o = (pr_up σ 1 (96 + 7 * lk + 5) (0 : Int32)) o
        rw [fr_m_br (by simp only [List.mem_cons, List.not_mem_nil, or_false, forall_eq_or_imp, forall_eq]; omega), ih]
      · refine (congrFun (congrArg (fun z : pr_I × Int32 => z.1) (if_neg c_49)) o).trans ?_
        show (m_fa (m_dn_it19 σ lk k).1 k (nI lk)) o = (pr_up σ 1 (96 + 7 * lk + 5) (0 : Int32)) o
        rw [fr_m_fa (by simp only [List.mem_cons, List.not_mem_nil, or_false, forall_eq_or_imp, forall_eq]; omega), ih]
theorem fw_m_dn_it19 {σ : pr_I} {lk : Nat} {j0 : Nat} (hj : j0 < 12) (hmw : ∀ m ∈ ([] : List Nat), j0 ≠ m) : ∀ {k : Nat}, (m_dn_it19 σ lk k).1 1 j0 = (pr_up σ 1 (96 + 7 * lk + 5) (0 : Int32)) 1 j0 := by
  intro k
  induction k with
  | zero => rfl
  | succ k ih =>
    by_cases c_36 : (m_has1_r (m_dn_it19 σ lk k).1 k (nI lk)) = 0
    · refine (congrArg (fun z : pr_I × Int32 => z.1 1 j0) (if_pos c_36)).trans ?_
      show (m_dn_it19 σ lk k).1 1 j0 = (pr_up σ 1 (96 + 7 * lk + 5) (0 : Int32)) 1 j0
      exact ih
    · refine (congrArg (fun z : pr_I × Int32 => z.1 1 j0) (if_neg c_36)).trans ?_
      by_cases c_49 : ((m_dn_it19 σ lk k).1 1 (264 + 28 * k + 4)) = (2 : Int32)
      · refine (congrArg (fun z : pr_I × Int32 => z.1 1 j0) (if_pos c_49)).trans ?_
        show (m_br (m_dn_it19 σ lk k).1 k) 1 j0 = (pr_up σ 1 (96 + 7 * lk + 5) (0 : Int32)) 1 j0
        exact ((fw_m_br hj (fun m hm => by cases hm)).trans ih)
      · refine (congrArg (fun z : pr_I × Int32 => z.1 1 j0) (if_neg c_49)).trans ?_
        show (m_fa (m_dn_it19 σ lk k).1 k (nI lk)) 1 j0 = (pr_up σ 1 (96 + 7 * lk + 5) (0 : Int32)) 1 j0
        exact ((fw_m_fa hj (fun m hm => by cases hm)).trans ih)

noncomputable def m_dn_r (σ : pr_I) (lk : Nat) : Int32 := ((m_dn_it19 σ lk (mrn σ)).2)
noncomputable def m_dn (σ : pr_I) (lk : Nat) : pr_I := (m_dn_it19 σ lk (mrn σ)).1
theorem mI_m_dn_it19 {σ : pr_I} {lk : Nat} (hI : mI σ) (hk : lk < 24) : ∀ k, k ≤ 40 → mI (m_dn_it19 σ lk k).1
  | 0, _ => mI.upn hI ((mW_link hk (by decide)).trans rfl)
  | k + 1, hj => by
    have ih := mI_m_dn_it19 (lk := lk) hI hk k (by omega)
    unfold m_dn_it19
    exact p_ite (P := fun z : pr_I × Int32 => mI z.1) ih (p_ite (P := fun z : pr_I × Int32 => mI z.1) (mI_m_br (by omega) ih) (mI_m_fa (by omega) (nI_vin hk (by decide)) ih))
set_option maxRecDepth 100000 in
set_option maxHeartbeats 400000 in
theorem c_m_dn {g : pr_C} {l : Launch} (hl : l.stackTraces = false) {T : pr_T} {I : pr_I} {L : pr_L} {m : Nat} {σ : pr_I} {lk : Nat} (hm : pr_Mo T m) (hI : mI σ) (hk : lk < 24) (hne : ∀ k, k < mrn σ → ∀ j, j < mtn (m_dn_it19 σ lk k).1 → ((m_br_it2 (m_dn_it19 σ lk k).1 k j) 1 (264 + 28 * k + 3)).toInt64 ≠ 0) : pr_M g l 6 0 0 mX8_downs [.ref m, .int (nI lk)] T (rg_put I m 16 σ) L (pr_R (some (.int (m_dn_r σ lk))) T (rg_put I m 16 (m_dn σ lk)) L) pr_no := by
  refine pr_ofG (by decide) rfl hl (Nat.le_of_ble_eq_true rfl) (fun X hA hX hXn hXt => ?_)
  subst hX
  show pr_G g X mX8_downs.2.2.1 _ 0 0 0 [.ref m, .int (nI lk), .null, .null] [] T (rg_put I m 16 σ) L
  have hn5 := mI_n5 hI
  have hr4 := mI_nr4 hI
  have hl24 := mI_nl24 hI
  have hn12 := mI_nn12 hI
  refine pr_aload_n hA dX8_downs_0 rfl ?_
  refine pr_getR hA f_X8_9 rfl (mo_k0 hm) (mo_f0_0 hm) dX8_downs_1 ?_
  refine pr_bipush hA (nI 96) dX8_downs_4 (by decide) ?_
  refine pr_bipush hA (nI 7) dX8_downs_6 (by decide) ?_
  refine pr_iload_n hA dX8_downs_8 rfl ?_
  refine pr_imul hA dX8_downs_9 ?_
  refine pr_iadd hA dX8_downs_10 ?_
  refine pr_iconst hA (nI 5) dX8_downs_11 (by decide) ?_
  refine pr_iadd hA dX8_downs_12 ?_
  rw [show (((nI 96) + ((nI 7) * (nI lk))) + (nI 5)) = (nI (96 + 7 * lk + 5)) from (nI_lin 96 7 lk 5)]
  refine pr_iconst hA (0) dX8_downs_13 (by decide) ?_
  refine pr_iastM (I' := (rg_put I m 16 (pr_up σ 1 (96 + 7 * lk + 5) (0 : Int32)))) hA (mo_k1 hm) (by omega) (by omega) (rg_up (by decide)) dX8_downs_14 ?_
  refine pr_iconst hA (0) dX8_downs_15 (by decide) ?_
  refine pr_istore_n (ls' := [_, _, _, _]) hA dX8_downs_16 (by decide) rfl ?_
  refine pr_iconst hA (nI 0) dX8_downs_17 (by decide) ?_
  refine pr_istore_n (ls' := [_, _, _, _]) hA dX8_downs_18 (by decide) rfl ?_
  have lp19 : ∀ (j k : Nat), (mrn σ) - k = j → k ≤ (mrn σ) → pr_G g X mX8_downs.2.2.1 (pr_MQ g X (pr_R (some (.int (m_dn_r σ lk))) T (rg_put I m 16 (m_dn σ lk)) L) pr_no 0 0) 0 0 19 [.ref m, .int (nI lk), .int ((m_dn_it19 σ lk k).2), .int (nI k)] [] T (rg_put I m 16 (m_dn_it19 σ lk k).1) L := by
    intro j
    induction j using Nat.strongRecOn with | ind j ih19 =>
    intro k hj19 hk19
    refine pr_iload_n hA dX8_downs_19 rfl ?_
    refine pr_aload_n hA dX8_downs_20 rfl ?_
    refine pr_getR hA f_X8_9 rfl (mo_k0 hm) (mo_f0_0 hm) dX8_downs_21 ?_
    refine pr_bipush hA (nI 8) dX8_downs_24 (by decide) ?_
    refine pr_ialdM (v := (nI (mrn σ))) hA (mo_k1 hm) (by omega) (by omega) ((rg_val (by decide)).trans ((fw_m_dn_it19 (by decide) (by decide)).trans ((pr_upk (by omega)).trans (mI_nr hI)))) dX8_downs_26 ?_
    refine pr_icmp_ge hA 75 dX8_downs_27 (by decide) (fun c_27 => ?_) (fun c_27 => ?_)
    · have n_27 : (mrn σ) ≤ k := (nI_leI (by omega) (by omega)).mp c_27
      have hex : (mrn σ) = k := by omega
      subst hex
      refine pr_iload_n hA dX8_downs_75 rfl ?_
      exact pr_ireturn hA rfl rfl (Nat.zero_le _) (Nat.zero_le _) dX8_downs_76 ⟨rfl, rfl, rfl, rfl⟩
    · have n_27 : ¬ (mrn σ) ≤ k := fun q => c_27 ((nI_leI (by omega) (by omega)).mpr q)
      refine pr_aload_n hA dX8_downs_30 rfl ?_
      refine pr_iload_n hA dX8_downs_31 rfl ?_
      refine pr_iload_n hA dX8_downs_32 rfl ?_
      have hv33 : mI (m_dn_it19 σ lk k).1 := (mI_m_dn_it19 (σ := σ) (lk := lk) hI hk k (by omega))
      refine pr_callVi hA [.int (nI k), .int (nI lk)] (c_m_has1 (m := m) (σ := (m_dn_it19 σ lk k).1) (r := k) (x := (nI lk)) (pr_hl hA) hm hv33) v_X8_328 (mo_k0 hm) (by decide) rfl rfl rfl (by decide) (Nat.zero_le _) (Nat.zero_le _) rfl (Nat.le_of_ble_eq_true rfl) dX8_downs_33 ?_
      refine pr_if_ne hA 42 dX8_downs_36 (by decide) (fun c_36 => ?_) (fun c_36 => ?_)
      · refine pr_aload_n hA dX8_downs_42 rfl ?_
        refine pr_iload_n hA dX8_downs_43 rfl ?_
        refine pr_iconst hA (4) dX8_downs_44 (by decide) ?_
        refine pr_callVi hA [.int (nI k), .int (4 : Int32)] (c_m_req (m := m) (k := k) (c := 4) (σ := (m_dn_it19 σ lk k).1) (pr_hl hA) hm (by omega) (by omega)) v_X8_229 (mo_k0 hm) (by decide) rfl rfl rfl (by decide) (Nat.zero_le _) (Nat.zero_le _) rfl (Nat.le_of_ble_eq_true rfl) dX8_downs_45 ?_
        refine pr_iconst hA (2) dX8_downs_48 (by decide) ?_
        refine pr_icmp_ne hA 60 dX8_downs_49 (by decide) (fun c_49 => ?_) (fun c_49 => ?_)
        · refine pr_aload_n hA dX8_downs_60 rfl ?_
          refine pr_iload_n hA dX8_downs_61 rfl ?_
          refine pr_iload_n hA dX8_downs_62 rfl ?_
          have hv63 : mI (m_dn_it19 σ lk k).1 := (mI_m_dn_it19 (σ := σ) (lk := lk) hI hk k (by omega))
          refine pr_callVv hA [.int (nI k), .int (nI lk)] (c_m_fa (m := m) (σ := (m_dn_it19 σ lk k).1) (r := k) (x := (nI lk)) (pr_hl hA) hm hv63 (by first | omega | assumption) (nI_vin hk (by decide))) v_X8_245 (mo_k0 hm) (by decide) rfl rfl rfl (by decide) (Nat.zero_le _) (Nat.zero_le _) rfl (Nat.le_of_ble_eq_true rfl) dX8_downs_63 ?_
          refine pr_iinc (ls' := [_, _, _, _]) hA (((m_dn_it19 σ lk k).2) + Int32.ofInt (1)) dX8_downs_66 (by decide) rfl rfl rfl ?_
          refine pr_iinc (ls' := [_, _, _, _]) hA (nI (k + 1)) dX8_downs_69 (by decide) rfl (nI_inc _) rfl ?_
          refine pr_goto hA 19 dX8_downs_72 (by decide) ?_
          have hb := ih19 ((mrn σ) - (k + 1)) (by omega) (k + 1) rfl (by omega)
          simp only [m_dn_it19, if_neg c_36, if_neg c_49] at hb
          exact hb
        · refine pr_aload_n hA dX8_downs_52 rfl ?_
          refine pr_iload_n hA dX8_downs_53 rfl ?_
          have hv54 : mI (m_dn_it19 σ lk k).1 := (mI_m_dn_it19 (σ := σ) (lk := lk) hI hk k (by omega))
          refine pr_callVv hA [.int (nI k)] (c_m_br (m := m) (σ := (m_dn_it19 σ lk k).1) (r := k) (pr_hl hA) hm hv54 (by first | omega | assumption) (hne k (by omega))) v_X8_331 (mo_k0 hm) (by decide) rfl rfl rfl (by decide) (Nat.zero_le _) (Nat.zero_le _) rfl (Nat.le_of_ble_eq_true rfl) dX8_downs_54 ?_
          refine pr_goto hA 66 dX8_downs_57 (by decide) ?_
          refine pr_iinc (ls' := [_, _, _, _]) hA (((m_dn_it19 σ lk k).2) + Int32.ofInt (1)) dX8_downs_66 (by decide) rfl rfl rfl ?_
          refine pr_iinc (ls' := [_, _, _, _]) hA (nI (k + 1)) dX8_downs_69 (by decide) rfl (nI_inc _) rfl ?_
          refine pr_goto hA 19 dX8_downs_72 (by decide) ?_
          have hb := ih19 ((mrn σ) - (k + 1)) (by omega) (k + 1) rfl (by omega)
          simp only [m_dn_it19, if_neg c_36, if_pos c_49] at hb
          exact hb
      · refine pr_goto hA 69 dX8_downs_39 (by decide) ?_
        refine pr_iinc (ls' := [_, _, _, _]) hA (nI (k + 1)) dX8_downs_69 (by decide) rfl (nI_inc _) rfl ?_
        refine pr_goto hA 19 dX8_downs_72 (by decide) ?_
        have hb := ih19 ((mrn σ) - (k + 1)) (by omega) (k + 1) rfl (by omega)
        simp only [m_dn_it19, if_pos c_36] at hb
        exact hb
  exact (lp19 ((mrn σ) - 0) 0 rfl (by omega))

theorem fr_m_dn {σ : pr_I} {lk : Nat} {o : Nat} (hms : ∀ m ∈ ([1] : List Nat), o ≠ m) : m_dn σ lk o = σ o := by
  unfold m_dn
  simp only [List.mem_cons, List.not_mem_nil, or_false, forall_eq_or_imp, forall_eq] at hms
  rw [fr_m_dn_it19 (by simp only [List.mem_cons, List.not_mem_nil, or_false, forall_eq_or_imp, forall_eq]; omega), pr_up_ne (by omega)]

theorem fw_m_dn {σ : pr_I} {lk : Nat} {j0 : Nat} (hj : j0 < 12) (hmw : ∀ m ∈ ([] : List Nat), j0 ≠ m) : m_dn σ lk 1 j0 = σ 1 j0 := by
  unfold m_dn
  exact ((fw_m_dn_it19 hj (fun m hm => by cases hm)).trans (pr_upk (by omega)))
