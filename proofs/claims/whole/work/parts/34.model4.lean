noncomputable def m_fa_it2 (σ : pr_I) (r : Nat) (x : Int32) : Nat → pr_I
  | 0 => σ
  | k + 1 => (if ((m_fa_it2 σ r x k) 1 (1384 + 8 * k + 0)) = (nI r) then (if (m_kept_r (m_fa_it2 σ r x k) k) = 0 then (m_fa_it2 σ r x k) else (m_gb (pr_up (m_fa_it2 σ r x k) 1 (1384 + 8 * k + 5) (3 : Int32)) k ((m_fa_it2 σ r x k) 1 (1384 + 8 * k + 6)))) else (m_fa_it2 σ r x k))
theorem fr_m_fa_it2 {σ : pr_I} {r : Nat} {x : Int32} {o : Nat} (hms : ∀ m ∈ ([1] : List Nat), o ≠ m) : ∀ {k : Nat}, (m_fa_it2 σ r x k) o = σ o := by
  simp only [List.mem_cons, List.not_mem_nil, or_false, forall_eq_or_imp, forall_eq] at hms
  intro k
  induction k with
  | zero =>
    show σ o = σ o
    rfl
  | succ k ih =>
    by_cases c_20 : ((m_fa_it2 σ r x k) 1 (1384 + 8 * k + 0)) = (nI r)
    · refine (congrFun (congrArg (fun z : pr_I => z) (if_pos c_20)) o).trans ?_
      by_cases c_28 : (m_kept_r (m_fa_it2 σ r x k) k) = 0
      · refine (congrFun (congrArg (fun z : pr_I => z) (if_pos c_28)) o).trans ?_
        show (m_fa_it2 σ r x k) o = σ o
        rw [ih]
      · refine (congrFun (congrArg (fun z : pr_I => z) (if_neg c_28)) o).trans ?_
        show (m_gb (pr_up (m_fa_it2 σ r x k) 1 (1384 + 8 * k + 5) (3 : Int32)) k ((m_fa_it2 σ r x k) 1 (1384 + 8 * k + 6))) o = σ o
        rw [fr_m_gb (by simp only [List.mem_cons, List.not_mem_nil, or_false, forall_eq_or_imp, forall_eq]; omega), pr_up_ne (by omega), ih]
    · refine (congrFun (congrArg (fun z : pr_I => z) (if_neg c_20)) o).trans ?_
      show (m_fa_it2 σ r x k) o = σ o
      rw [ih]
theorem fw_m_fa_it2 {σ : pr_I} {r : Nat} {x : Int32} {j0 : Nat} (hj : j0 < 12) (hmw : ∀ m ∈ ([] : List Nat), j0 ≠ m) : ∀ {k : Nat}, (m_fa_it2 σ r x k) 1 j0 = σ 1 j0 := by
  intro k
  induction k with
  | zero => rfl
  | succ k ih =>
    by_cases c_20 : ((m_fa_it2 σ r x k) 1 (1384 + 8 * k + 0)) = (nI r)
    · refine (congrArg (fun z : pr_I => z 1 j0) (if_pos c_20)).trans ?_
      by_cases c_28 : (m_kept_r (m_fa_it2 σ r x k) k) = 0
      · refine (congrArg (fun z : pr_I => z 1 j0) (if_pos c_28)).trans ?_
        show (m_fa_it2 σ r x k) 1 j0 = σ 1 j0
        exact ih
      · refine (congrArg (fun z : pr_I => z 1 j0) (if_neg c_28)).trans ?_
        show (m_gb (pr_up (m_fa_it2 σ r x k) 1 (1384 + 8 * k + 5) (3 : Int32)) k ((m_fa_it2 σ r x k) 1 (1384 + 8 * k + 6))) 1 j0 = σ 1 j0
        exact ((fw_m_gb hj (fun m hm => by cases hm)).trans ((pr_upk (by omega)).trans ih))
    · refine (congrArg (fun z : pr_I => z 1 j0) (if_neg c_20)).trans ?_
      show (m_fa_it2 σ r x k) 1 j0 = σ 1 j0
      exact ih

noncomputable def m_fa (σ : pr_I) (r : Nat) (x : Int32) : pr_I := (pr_up (pr_up (pr_up (pr_up (pr_up (pr_up (m_fa_it2 σ r x (mtn σ)) 1 (264 + 28 * r + 9) (((m_fa_it2 σ r x (mtn σ)) 1 (264 + 28 * r + 9)) ||| ((1 : Int32) <<< (x &&& 31)))) 1 (264 + 28 * r + 5) (((m_fa_it2 σ r x (mtn σ)) 1 (264 + 28 * r + 5)) + (1 : Int32))) 1 (264 + 28 * r + 12) x) 1 (96 + 7 * x.toNatClampNeg + 6) (((m_fa_it2 σ r x (mtn σ)) 1 (96 + 7 * x.toNatClampNeg + 6)) + (1 : Int32))) 1 (264 + 28 * r + 4) (if (if (((m_fa_it2 σ r x (mtn σ)) 1 (264 + 28 * r + 5)) + (1 : Int32)) < (σ 1 3) then (nI 0) else (1 : Int32)) = 0 then (7 : Int32) else (4 : Int32))) 1 (264 + 28 * r + 6) (if (if (((m_fa_it2 σ r x (mtn σ)) 1 (264 + 28 * r + 5)) + (1 : Int32)) < (σ 1 3) then (nI 0) else (1 : Int32)) = 0 then ((σ 1 0) + (σ 1 2)) else ((-1) : Int32)))
theorem mI_m_fa_it2 {σ : pr_I} {r : Nat} {x : Int32} (hI : mI σ) : ∀ k, k ≤ 500 → mI (m_fa_it2 σ r x k)
  | 0, _ => hI
  | k + 1, hk => by
    have ih := mI_m_fa_it2 (r := r) (x := x) hI k (by omega)
    unfold m_fa_it2
    refine I_ite (P := mI) (I_ite (P := mI) ih (mI_m_gb (by omega) (mI.upn ih ((mW_tick (by omega) (by decide)).trans rfl)))) ih
set_option maxRecDepth 100000 in
set_option maxHeartbeats 400000 in
theorem c_m_fa {g : pr_C} {l : Launch} (hl : l.stackTraces = false) {T : pr_T} {I : pr_I} {L : pr_L} {m : Nat} {σ : pr_I} {r : Nat} {x : Int32} (hm : pr_Mo T m) (hI : mI σ) (hr : r < 40) (hx : vp_in x 24) : pr_M g l 5 0 0 mX8_failsAt [.ref m, .int (nI r), .int x] T (rg_put I m 16 σ) L (pr_R none T (rg_put I m 16 (m_fa σ r x)) L) pr_no := by
  refine pr_ofG (by decide) rfl hl (Nat.le_of_ble_eq_true rfl) (fun X hA hX hXn hXt => ?_)
  subst hX
  show pr_G g X mX8_failsAt.2.2.1 _ 0 0 0 [.ref m, .int (nI r), .int x, .null] [] T (rg_put I m 16 σ) L
  have hn5 := mI_n5 hI
  have hr4 := mI_nr4 hI
  have hl24 := mI_nl24 hI
  have hn12 := mI_nn12 hI
  have hx1 := vp_in_lt hx
  refine pr_iconst hA (nI 0) dX8_failsAt_0 (by decide) ?_
  refine pr_istore_n (ls' := [_, _, _, _]) hA dX8_failsAt_1 (by decide) rfl ?_
  have lp2 : ∀ (j k : Nat), (mtn σ) - k = j → k ≤ (mtn σ) → pr_G g X mX8_failsAt.2.2.1 (pr_MQ g X (pr_R none T (rg_put I m 16 (m_fa σ r x)) L) pr_no 0 0) 0 0 2 [.ref m, .int (nI r), .int x, .int (nI k)] [] T (rg_put I m 16 (m_fa_it2 σ r x k)) L := by
    intro j
    induction j using Nat.strongRecOn with | ind j ih2 =>
    intro k hj2 hk2
    refine pr_iload_n hA dX8_failsAt_2 rfl ?_
    refine pr_aload_n hA dX8_failsAt_3 rfl ?_
    refine pr_getR hA f_X8_9 rfl (mo_k0 hm) (mo_f0_0 hm) dX8_failsAt_4 ?_
    refine pr_bipush hA (nI 9) dX8_failsAt_7 (by decide) ?_
    refine pr_ialdM (v := (nI (mtn σ))) hA (mo_k1 hm) (by omega) (by omega) ((rg_val (by decide)).trans ((fw_m_fa_it2 (by decide) (by decide)).trans (mI_n hI))) dX8_failsAt_9 ?_
    refine pr_icmp_ge hA 59 dX8_failsAt_10 (by decide) (fun c_10 => ?_) (fun c_10 => ?_)
    · have n_10 : (mtn σ) ≤ k := (nI_leI (by omega) (by omega)).mp c_10
      have hex : (mtn σ) = k := by omega
      subst hex
      refine pr_aload_n hA dX8_failsAt_59 rfl ?_
      refine pr_iload_n hA dX8_failsAt_60 rfl ?_
      refine pr_bipush hA (9) dX8_failsAt_61 (by decide) ?_
      refine pr_aload_n hA dX8_failsAt_63 rfl ?_
      refine pr_iload_n hA dX8_failsAt_64 rfl ?_
      refine pr_bipush hA (9) dX8_failsAt_65 (by decide) ?_
      refine pr_callVi hA [.int (nI r), .int (9 : Int32)] (c_m_req (m := m) (k := r) (c := 9) (σ := (m_fa_it2 σ r x (mtn σ))) (pr_hl hA) hm (by omega) (by omega)) v_X8_229 (mo_k0 hm) (by decide) rfl rfl rfl (by decide) (Nat.zero_le _) (Nat.zero_le _) rfl (Nat.le_of_ble_eq_true rfl) dX8_failsAt_67 ?_
      refine pr_iconst hA (1) dX8_failsAt_70 (by decide) ?_
      refine pr_iload_n hA dX8_failsAt_71 rfl ?_
      refine pr_ishl hA dX8_failsAt_72 ?_
      refine pr_ior hA dX8_failsAt_73 ?_
      refine pr_callVv hA [.int (nI r), .int (9 : Int32), .int (((m_fa_it2 σ r x (mtn σ)) 1 (264 + 28 * r + 9)) ||| ((1 : Int32) <<< (x &&& 31)))] (c_m_putReq (m := m) (k := r) (c := 9) (σ := (m_fa_it2 σ r x (mtn σ))) (pr_hl hA) hm (by omega) (by omega)) v_X8_238 (mo_k0 hm) (by decide) rfl rfl rfl (by decide) (Nat.zero_le _) (Nat.zero_le _) rfl (Nat.le_of_ble_eq_true rfl) dX8_failsAt_74 ?_
      refine pr_aload_n hA dX8_failsAt_77 rfl ?_
      refine pr_iload_n hA dX8_failsAt_78 rfl ?_
      refine pr_iconst hA (5) dX8_failsAt_79 (by decide) ?_
      refine pr_aload_n hA dX8_failsAt_80 rfl ?_
      refine pr_iload_n hA dX8_failsAt_81 rfl ?_
      refine pr_iconst hA (5) dX8_failsAt_82 (by decide) ?_
      refine pr_callVi hA [.int (nI r), .int (5 : Int32)] (c_m_req (m := m) (k := r) (c := 5) (σ := (pr_up (m_fa_it2 σ r x (mtn σ)) 1 (264 + 28 * r + 9) (((m_fa_it2 σ r x (mtn σ)) 1 (264 + 28 * r + 9)) ||| ((1 : Int32) <<< (x &&& 31))))) (pr_hl hA) hm (by omega) (by omega)) v_X8_229 (mo_k0 hm) (by decide) rfl rfl rfl (by decide) (Nat.zero_le _) (Nat.zero_le _) rfl (Nat.le_of_ble_eq_true rfl) dX8_failsAt_83 ?_
      rw [show ((pr_up (m_fa_it2 σ r x (mtn σ)) 1 (264 + 28 * r + 9) (((m_fa_it2 σ r x (mtn σ)) 1 (264 + 28 * r + 9)) ||| ((1 : Int32) <<< (x &&& 31)))) 1 (264 + 28 * r + 5)) = ((m_fa_it2 σ r x (mtn σ)) 1 (264 + 28 * r + 5)) from (pr_upk (by omega))]
      refine pr_iconst hA (1) dX8_failsAt_86 (by decide) ?_
      refine pr_iadd hA dX8_failsAt_87 ?_
      refine pr_callVv hA [.int (nI r), .int (5 : Int32), .int (((m_fa_it2 σ r x (mtn σ)) 1 (264 + 28 * r + 5)) + (1 : Int32))] (c_m_putReq (m := m) (k := r) (c := 5) (σ := (pr_up (m_fa_it2 σ r x (mtn σ)) 1 (264 + 28 * r + 9) (((m_fa_it2 σ r x (mtn σ)) 1 (264 + 28 * r + 9)) ||| ((1 : Int32) <<< (x &&& 31))))) (pr_hl hA) hm (by omega) (by omega)) v_X8_238 (mo_k0 hm) (by decide) rfl rfl rfl (by decide) (Nat.zero_le _) (Nat.zero_le _) rfl (Nat.le_of_ble_eq_true rfl) dX8_failsAt_88 ?_
      refine pr_aload_n hA dX8_failsAt_91 rfl ?_
      refine pr_iload_n hA dX8_failsAt_92 rfl ?_
      refine pr_bipush hA (12) dX8_failsAt_93 (by decide) ?_
      refine pr_iload_n hA dX8_failsAt_95 rfl ?_
      refine pr_callVv hA [.int (nI r), .int (12 : Int32), .int x] (c_m_putReq (m := m) (k := r) (c := 12) (σ := (pr_up (pr_up (m_fa_it2 σ r x (mtn σ)) 1 (264 + 28 * r + 9) (((m_fa_it2 σ r x (mtn σ)) 1 (264 + 28 * r + 9)) ||| ((1 : Int32) <<< (x &&& 31)))) 1 (264 + 28 * r + 5) (((m_fa_it2 σ r x (mtn σ)) 1 (264 + 28 * r + 5)) + (1 : Int32)))) (pr_hl hA) hm (by omega) (by omega)) v_X8_238 (mo_k0 hm) (by decide) rfl rfl rfl (by decide) (Nat.zero_le _) (Nat.zero_le _) rfl (Nat.le_of_ble_eq_true rfl) dX8_failsAt_96 ?_
      refine pr_aload_n hA dX8_failsAt_99 rfl ?_
      refine pr_getR hA f_X8_9 rfl (mo_k0 hm) (mo_f0_0 hm) dX8_failsAt_100 ?_
      refine pr_bipush hA (nI 96) dX8_failsAt_103 (by decide) ?_
      refine pr_bipush hA (nI 7) dX8_failsAt_105 (by decide) ?_
      refine pr_iload_n hA dX8_failsAt_107 rfl ?_
      refine pr_imul hA dX8_failsAt_108 ?_
      refine pr_iadd hA dX8_failsAt_109 ?_
      refine pr_bipush hA (nI 6) dX8_failsAt_110 (by decide) ?_
      refine pr_iadd hA dX8_failsAt_112 ?_
      rw [show (((nI 96) + ((nI 7) * x)) + (nI 6)) = (nI (96 + 7 * x.toNatClampNeg + 6)) from (nI_linx hx (by decide))]
      refine pr_dup2 hA dX8_failsAt_113 rfl rfl ?_
      refine pr_ialdM (v := ((m_fa_it2 σ r x (mtn σ)) 1 (96 + 7 * x.toNatClampNeg + 6))) hA (mo_k1 hm) (by omega) (by omega) ((rg_val (by decide)).trans ((pr_upk (by omega)).trans ((pr_upk (by omega)).trans (pr_upk (by omega))))) dX8_failsAt_114 ?_
      refine pr_iconst hA (1) dX8_failsAt_115 (by decide) ?_
      refine pr_iadd hA dX8_failsAt_116 ?_
      refine pr_iastM (I' := (rg_put I m 16 (pr_up (pr_up (pr_up (pr_up (m_fa_it2 σ r x (mtn σ)) 1 (264 + 28 * r + 9) (((m_fa_it2 σ r x (mtn σ)) 1 (264 + 28 * r + 9)) ||| ((1 : Int32) <<< (x &&& 31)))) 1 (264 + 28 * r + 5) (((m_fa_it2 σ r x (mtn σ)) 1 (264 + 28 * r + 5)) + (1 : Int32))) 1 (264 + 28 * r + 12) x) 1 (96 + 7 * x.toNatClampNeg + 6) (((m_fa_it2 σ r x (mtn σ)) 1 (96 + 7 * x.toNatClampNeg + 6)) + (1 : Int32))))) hA (mo_k1 hm) (by omega) (by omega) (rg_up (by decide)) dX8_failsAt_117 ?_
      refine pr_aload_n hA dX8_failsAt_118 rfl ?_
      refine pr_iload_n hA dX8_failsAt_119 rfl ?_
      refine pr_iconst hA (5) dX8_failsAt_120 (by decide) ?_
      refine pr_callVi hA [.int (nI r), .int (5 : Int32)] (c_m_req (m := m) (k := r) (c := 5) (σ := (pr_up (pr_up (pr_up (pr_up (m_fa_it2 σ r x (mtn σ)) 1 (264 + 28 * r + 9) (((m_fa_it2 σ r x (mtn σ)) 1 (264 + 28 * r + 9)) ||| ((1 : Int32) <<< (x &&& 31)))) 1 (264 + 28 * r + 5) (((m_fa_it2 σ r x (mtn σ)) 1 (264 + 28 * r + 5)) + (1 : Int32))) 1 (264 + 28 * r + 12) x) 1 (96 + 7 * x.toNatClampNeg + 6) (((m_fa_it2 σ r x (mtn σ)) 1 (96 + 7 * x.toNatClampNeg + 6)) + (1 : Int32)))) (pr_hl hA) hm (by omega) (by omega)) v_X8_229 (mo_k0 hm) (by decide) rfl rfl rfl (by decide) (Nat.zero_le _) (Nat.zero_le _) rfl (Nat.le_of_ble_eq_true rfl) dX8_failsAt_121 ?_
      rw [show ((pr_up (pr_up (pr_up (pr_up (m_fa_it2 σ r x (mtn σ)) 1 (264 + 28 * r + 9) (((m_fa_it2 σ r x (mtn σ)) 1 (264 + 28 * r + 9)) ||| ((1 : Int32) <<< (x &&& 31)))) 1 (264 + 28 * r + 5) (((m_fa_it2 σ r x (mtn σ)) 1 (264 + 28 * r + 5)) + (1 : Int32))) 1 (264 + 28 * r + 12) x) 1 (96 + 7 * x.toNatClampNeg + 6) (((m_fa_it2 σ r x (mtn σ)) 1 (96 + 7 * x.toNatClampNeg + 6)) + (1 : Int32))) 1 (264 + 28 * r + 5)) = (((m_fa_it2 σ r x (mtn σ)) 1 (264 + 28 * r + 5)) + (1 : Int32)) from ((pr_upk (by omega)).trans ((pr_upk (by omega)).trans pr_upe))]
      refine pr_aload_n hA dX8_failsAt_124 rfl ?_
      refine pr_getR hA f_X8_9 rfl (mo_k0 hm) (mo_f0_0 hm) dX8_failsAt_125 ?_
      refine pr_iconst hA (nI 3) dX8_failsAt_128 (by decide) ?_
      refine pr_ialdM (v := (σ 1 3)) hA (mo_k1 hm) (by omega) (by omega) ((rg_val (by decide)).trans ((pr_upk (by omega)).trans ((pr_upk (by omega)).trans ((pr_upk (by omega)).trans ((pr_upk (by omega)).trans (fw_m_fa_it2 (by decide) (by decide))))))) dX8_failsAt_129 ?_
      refine pr_join (c := (((m_fa_it2 σ r x (mtn σ)) 1 (264 + 28 * r + 5)) + (1 : Int32)) < (σ 1 3)) (J := 138) (st := []) (nI 0) (1 : Int32) inferInstance (fun kt kf => ?_) ?_
      · refine pr_icmp_lt hA 137 dX8_failsAt_130 (by decide) (fun c_130 => ?_) (fun c_130 => ?_)
        · refine pr_iconst hA (nI 0) dX8_failsAt_137 (by decide) ?_
          exact kt c_130
        · refine pr_iconst hA (1) dX8_failsAt_133 (by decide) ?_
          refine pr_goto hA 138 dX8_failsAt_134 (by decide) ?_
          exact kf c_130
      · refine pr_istore_n (ls' := [_, _, _, _]) hA dX8_failsAt_138 (by decide) rfl ?_
        refine pr_aload_n hA dX8_failsAt_139 rfl ?_
        refine pr_iload_n hA dX8_failsAt_140 rfl ?_
        refine pr_iconst hA (4) dX8_failsAt_141 (by decide) ?_
        refine pr_iload_n hA dX8_failsAt_142 rfl ?_
        refine pr_join (c := (if (((m_fa_it2 σ r x (mtn σ)) 1 (264 + 28 * r + 5)) + (1 : Int32)) < (σ 1 3) then (nI 0) else (1 : Int32)) = 0) (J := 152) (st := [.int (4 : Int32), .int (nI r), .ref m]) (7 : Int32) (4 : Int32) inferInstance (fun kt kf => ?_) ?_
        · refine pr_if_eq hA 150 dX8_failsAt_143 (by decide) (fun c_143 => ?_) (fun c_143 => ?_)
          · refine pr_bipush hA (7) dX8_failsAt_150 (by decide) ?_
            exact kt c_143
          · refine pr_iconst hA (4) dX8_failsAt_146 (by decide) ?_
            refine pr_goto hA 152 dX8_failsAt_147 (by decide) ?_
            exact kf c_143
        · refine pr_callVv hA [.int (nI r), .int (4 : Int32), .int (if (if (((m_fa_it2 σ r x (mtn σ)) 1 (264 + 28 * r + 5)) + (1 : Int32)) < (σ 1 3) then (nI 0) else (1 : Int32)) = 0 then (7 : Int32) else (4 : Int32))] (c_m_putReq (m := m) (k := r) (c := 4) (σ := (pr_up (pr_up (pr_up (pr_up (m_fa_it2 σ r x (mtn σ)) 1 (264 + 28 * r + 9) (((m_fa_it2 σ r x (mtn σ)) 1 (264 + 28 * r + 9)) ||| ((1 : Int32) <<< (x &&& 31)))) 1 (264 + 28 * r + 5) (((m_fa_it2 σ r x (mtn σ)) 1 (264 + 28 * r + 5)) + (1 : Int32))) 1 (264 + 28 * r + 12) x) 1 (96 + 7 * x.toNatClampNeg + 6) (((m_fa_it2 σ r x (mtn σ)) 1 (96 + 7 * x.toNatClampNeg + 6)) + (1 : Int32)))) (pr_hl hA) hm (by omega) (by omega)) v_X8_238 (mo_k0 hm) (by decide) rfl rfl rfl (by decide) (Nat.zero_le _) (Nat.zero_le _) rfl (Nat.le_of_ble_eq_true rfl) dX8_failsAt_152 ?_
          refine pr_aload_n hA dX8_failsAt_155 rfl ?_
          refine pr_iload_n hA dX8_failsAt_156 rfl ?_
          refine pr_bipush hA (6) dX8_failsAt_157 (by decide) ?_
          refine pr_iload_n hA dX8_failsAt_159 rfl ?_
          refine pr_join (c := (if (((m_fa_it2 σ r x (mtn σ)) 1 (264 + 28 * r + 5)) + (1 : Int32)) < (σ 1 3) then (nI 0) else (1 : Int32)) = 0) (J := 180) (st := [.int (6 : Int32), .int (nI r), .ref m]) ((σ 1 0) + (σ 1 2)) ((-1) : Int32) inferInstance (fun kt kf => ?_) ?_
          · refine pr_if_eq hA 167 dX8_failsAt_160 (by decide) (fun c_160 => ?_) (fun c_160 => ?_)
            · refine pr_aload_n hA dX8_failsAt_167 rfl ?_
              refine pr_getR hA f_X8_9 rfl (mo_k0 hm) (mo_f0_0 hm) dX8_failsAt_168 ?_
              refine pr_iconst hA (nI 0) dX8_failsAt_171 (by decide) ?_
              refine pr_ialdM (v := (σ 1 0)) hA (mo_k1 hm) (by omega) (by omega) ((rg_val (by decide)).trans ((pr_upk (by omega)).trans ((pr_upk (by omega)).trans ((pr_upk (by omega)).trans ((pr_upk (by omega)).trans ((pr_upk (by omega)).trans (fw_m_fa_it2 (by decide) (by decide)))))))) dX8_failsAt_172 ?_
              refine pr_aload_n hA dX8_failsAt_173 rfl ?_
              refine pr_getR hA f_X8_9 rfl (mo_k0 hm) (mo_f0_0 hm) dX8_failsAt_174 ?_
              refine pr_iconst hA (nI 2) dX8_failsAt_177 (by decide) ?_
              refine pr_ialdM (v := (σ 1 2)) hA (mo_k1 hm) (by omega) (by omega) ((rg_val (by decide)).trans ((pr_upk (by omega)).trans ((pr_upk (by omega)).trans ((pr_upk (by omega)).trans ((pr_upk (by omega)).trans ((pr_upk (by omega)).trans (fw_m_fa_it2 (by decide) (by decide)))))))) dX8_failsAt_178 ?_
              refine pr_iadd hA dX8_failsAt_179 ?_
              exact kt c_160
            · refine pr_iconst hA ((-1)) dX8_failsAt_163 (by decide) ?_
              refine pr_goto hA 180 dX8_failsAt_164 (by decide) ?_
              exact kf c_160
          · refine pr_callVv hA [.int (nI r), .int (6 : Int32), .int (if (if (((m_fa_it2 σ r x (mtn σ)) 1 (264 + 28 * r + 5)) + (1 : Int32)) < (σ 1 3) then (nI 0) else (1 : Int32)) = 0 then ((σ 1 0) + (σ 1 2)) else ((-1) : Int32))] (c_m_putReq (m := m) (k := r) (c := 6) (σ := (pr_up (pr_up (pr_up (pr_up (pr_up (m_fa_it2 σ r x (mtn σ)) 1 (264 + 28 * r + 9) (((m_fa_it2 σ r x (mtn σ)) 1 (264 + 28 * r + 9)) ||| ((1 : Int32) <<< (x &&& 31)))) 1 (264 + 28 * r + 5) (((m_fa_it2 σ r x (mtn σ)) 1 (264 + 28 * r + 5)) + (1 : Int32))) 1 (264 + 28 * r + 12) x) 1 (96 + 7 * x.toNatClampNeg + 6) (((m_fa_it2 σ r x (mtn σ)) 1 (96 + 7 * x.toNatClampNeg + 6)) + (1 : Int32))) 1 (264 + 28 * r + 4) (if (if (((m_fa_it2 σ r x (mtn σ)) 1 (264 + 28 * r + 5)) + (1 : Int32)) < (σ 1 3) then (nI 0) else (1 : Int32)) = 0 then (7 : Int32) else (4 : Int32)))) (pr_hl hA) hm (by omega) (by omega)) v_X8_238 (mo_k0 hm) (by decide) rfl rfl rfl (by decide) (Nat.zero_le _) (Nat.zero_le _) rfl (Nat.le_of_ble_eq_true rfl) dX8_failsAt_180 ?_
            exact pr_return hA rfl (Nat.zero_le _) (Nat.zero_le _) dX8_failsAt_183 ⟨rfl, rfl, rfl, rfl⟩
    · have n_10 : ¬ (mtn σ) ≤ k := fun q => c_10 ((nI_leI (by omega) (by omega)).mpr q)
      refine pr_aload_n hA dX8_failsAt_13 rfl ?_
      refine pr_iload_n hA dX8_failsAt_14 rfl ?_
      refine pr_iconst hA (0) dX8_failsAt_15 (by decide) ?_
      refine pr_callVi hA [.int (nI k), .int (0 : Int32)] (c_m_tick (m := m) (k := k) (c := 0) (σ := (m_fa_it2 σ r x k)) (pr_hl hA) hm (by omega) (by omega)) v_X8_197 (mo_k0 hm) (by decide) rfl rfl rfl (by decide) (Nat.zero_le _) (Nat.zero_le _) rfl (Nat.le_of_ble_eq_true rfl) dX8_failsAt_16 ?_
      refine pr_iload_n hA dX8_failsAt_19 rfl ?_
      refine pr_icmp_ne hA 53 dX8_failsAt_20 (by decide) (fun c_20 => ?_) (fun c_20 => ?_)
      · refine pr_iinc (ls' := [_, _, _, _]) hA (nI (k + 1)) dX8_failsAt_53 (by decide) rfl (nI_inc _) rfl ?_
        refine pr_goto hA 2 dX8_failsAt_56 (by decide) ?_
        have hb := ih2 ((mtn σ) - (k + 1)) (by omega) (k + 1) rfl (by omega)
        simp only [m_fa_it2, if_neg c_20] at hb
        exact hb
      · refine pr_aload_n hA dX8_failsAt_23 rfl ?_
        refine pr_iload_n hA dX8_failsAt_24 rfl ?_
        refine pr_callVi hA [.int (nI k)] (c_m_kept (m := m) (σ := (m_fa_it2 σ r x k)) (t := k) (pr_hl hA) hm (by omega)) v_X8_201 (mo_k0 hm) (by decide) rfl rfl rfl (by decide) (Nat.zero_le _) (Nat.zero_le _) rfl (Nat.le_of_ble_eq_true rfl) dX8_failsAt_25 ?_
        refine pr_if_ne hA 34 dX8_failsAt_28 (by decide) (fun c_28 => ?_) (fun c_28 => ?_)
        · refine pr_aload_n hA dX8_failsAt_34 rfl ?_
          refine pr_iload_n hA dX8_failsAt_35 rfl ?_
          refine pr_iconst hA (5) dX8_failsAt_36 (by decide) ?_
          refine pr_iconst hA (3) dX8_failsAt_37 (by decide) ?_
          refine pr_callVv hA [.int (nI k), .int (5 : Int32), .int (3 : Int32)] (c_m_putTick (m := m) (k := k) (c := 5) (σ := (m_fa_it2 σ r x k)) (pr_hl hA) hm (by omega) (by omega)) v_X8_242 (mo_k0 hm) (by decide) rfl rfl rfl (by decide) (Nat.zero_le _) (Nat.zero_le _) rfl (Nat.le_of_ble_eq_true rfl) dX8_failsAt_38 ?_
          refine pr_aload_n hA dX8_failsAt_41 rfl ?_
          refine pr_iload_n hA dX8_failsAt_42 rfl ?_
          refine pr_aload_n hA dX8_failsAt_43 rfl ?_
          refine pr_iload_n hA dX8_failsAt_44 rfl ?_
          refine pr_bipush hA (6) dX8_failsAt_45 (by decide) ?_
          refine pr_callVi hA [.int (nI k), .int (6 : Int32)] (c_m_tick (m := m) (k := k) (c := 6) (σ := (pr_up (m_fa_it2 σ r x k) 1 (1384 + 8 * k + 5) (3 : Int32))) (pr_hl hA) hm (by omega) (by omega)) v_X8_197 (mo_k0 hm) (by decide) rfl rfl rfl (by decide) (Nat.zero_le _) (Nat.zero_le _) rfl (Nat.le_of_ble_eq_true rfl) dX8_failsAt_47 ?_
          rw [show ((pr_up (m_fa_it2 σ r x k) 1 (1384 + 8 * k + 5) (3 : Int32)) 1 (1384 + 8 * k + 6)) = ((m_fa_it2 σ r x k) 1 (1384 + 8 * k + 6)) from (pr_upk (by omega))]
          have hv50 : mI (pr_up (m_fa_it2 σ r x k) 1 (1384 + 8 * k + 5) (3 : Int32)) := (mI.upn (mI_m_fa_it2 (σ := σ) (r := r) (x := x) hI k (by omega)) ((mW_tick (by omega) (by decide)).trans rfl))
          refine pr_callVv hA [.int (nI k), .int ((m_fa_it2 σ r x k) 1 (1384 + 8 * k + 6))] (c_m_gb (m := m) (σ := (pr_up (m_fa_it2 σ r x k) 1 (1384 + 8 * k + 5) (3 : Int32))) (t := k) (z := ((m_fa_it2 σ r x k) 1 (1384 + 8 * k + 6))) (pr_hl hA) hm hv50 (by first | omega | assumption)) v_X8_257 (mo_k0 hm) (by decide) rfl rfl rfl (by decide) (Nat.zero_le _) (Nat.zero_le _) rfl (Nat.le_of_ble_eq_true rfl) dX8_failsAt_50 ?_
          refine pr_iinc (ls' := [_, _, _, _]) hA (nI (k + 1)) dX8_failsAt_53 (by decide) rfl (nI_inc _) rfl ?_
          refine pr_goto hA 2 dX8_failsAt_56 (by decide) ?_
          have hb := ih2 ((mtn σ) - (k + 1)) (by omega) (k + 1) rfl (by omega)
          simp only [m_fa_it2, if_pos c_20, if_neg c_28] at hb
          exact hb
        · refine pr_goto hA 53 dX8_failsAt_31 (by decide) ?_
          refine pr_iinc (ls' := [_, _, _, _]) hA (nI (k + 1)) dX8_failsAt_53 (by decide) rfl (nI_inc _) rfl ?_
          refine pr_goto hA 2 dX8_failsAt_56 (by decide) ?_
          have hb := ih2 ((mtn σ) - (k + 1)) (by omega) (k + 1) rfl (by omega)
          simp only [m_fa_it2, if_pos c_20, if_pos c_28] at hb
          exact hb
  exact (lp2 ((mtn σ) - 0) 0 rfl (by omega))

theorem fr_m_fa {σ : pr_I} {r : Nat} {x : Int32} {o : Nat} (hms : ∀ m ∈ ([1] : List Nat), o ≠ m) : m_fa σ r x o = σ o := by
  unfold m_fa
  simp only [List.mem_cons, List.not_mem_nil, or_false, forall_eq_or_imp, forall_eq] at hms
  rw [pr_up_ne (by omega), pr_up_ne (by omega), pr_up_ne (by omega), pr_up_ne (by omega), pr_up_ne (by omega), pr_up_ne (by omega), fr_m_fa_it2 (by simp only [List.mem_cons, List.not_mem_nil, or_false, forall_eq_or_imp, forall_eq]; omega)]

theorem fw_m_fa {σ : pr_I} {r : Nat} {x : Int32} {j0 : Nat} (hj : j0 < 12) (hmw : ∀ m ∈ ([] : List Nat), j0 ≠ m) : m_fa σ r x 1 j0 = σ 1 j0 := by
  unfold m_fa
  exact ((pr_upk (by omega)).trans ((pr_upk (by omega)).trans ((pr_upk (by omega)).trans ((pr_upk (by omega)).trans ((pr_upk (by omega)).trans ((pr_upk (by omega)).trans (fw_m_fa_it2 hj (fun m hm => by cases hm))))))))
theorem mI_m_fa {σ : pr_I} {r : Nat} {x : Int32} (hr : r < 40) (hx : vp_in x 24) (hI : mI σ) : mI (m_fa σ r x) := by
  have h0 := mI_m_fa_it2 (r := r) (x := x) hI (mtn σ) (mI_n5 hI)
  have q : ∀ {c : Nat} {S : pr_I} {v : Int32}, c < 28 → mR c = none → mI S → mI (pr_up S 1 (264 + 28 * r + c) v) := fun hc e h => mI.upn h ((mW_req hr hc).trans e)
  unfold m_fa
  exact q (by decide) rfl (q (by decide) rfl (mI.upn (q (by decide) rfl (q (by decide) rfl (q (by decide) rfl h0))) ((mW_link (vp_in_lt hx) (by decide)).trans rfl)))
theorem nI_addx {a n : Nat} {x : Int32} (hx : vp_in x n) (hn : n < 2 ^ 31) : nI a + x = nI (a + x.toNatClampNeg) := by
  obtain ⟨j, hj, rfl⟩ := vp_in_of hx hn
  rw [nI_clamp (by omega), nI_add]
theorem mR_path {p : Nat} (h : p < 11) : mR (15 + p) = some 24 := by
  unfold mR
  rw [if_neg (by omega), if_neg (by omega), if_neg (by omega), if_neg (by omega), if_neg (by omega), if_pos (by omega)]
noncomputable def m_is (σ : pr_I) (r : Nat) (x : Int32) : pr_I := (pr_up (pr_up (pr_up (pr_up (pr_up (pr_up (pr_up (pr_up (pr_up (pr_up σ 1 (1384 + 8 * (mtn σ) + 0) (nI r)) 1 (1384 + 8 * (mtn σ) + 1) x) 1 (1384 + 8 * (mtn σ) + 2) (σ 1 (264 + 28 * r + 2))) 1 (1384 + 8 * (mtn σ) + 3) (σ 1 0)) 1 (1384 + 8 * (mtn σ) + 4) ((σ 1 0) + (σ 1 1))) 1 (1384 + 8 * (mtn σ) + 5) (0 : Int32)) 1 (1384 + 8 * (mtn σ) + 6) ((σ 1 (96 + 7 * x.toNatClampNeg + 3)) * (σ 1 (264 + 28 * r + 2)))) 1 (1384 + 8 * (mtn σ) + 7) (0 : Int32)) 1 (264 + 28 * r + 7) ((σ 1 (264 + 28 * r + 7)) + ((σ 1 (96 + 7 * x.toNatClampNeg + 3)) * (σ 1 (264 + 28 * r + 2))))) 1 9 (nI ((mtn σ) + 1)))
set_option maxRecDepth 100000 in
set_option maxHeartbeats 400000 in
theorem c_m_is {g : pr_C} {l : Launch} (hl : l.stackTraces = false) {T : pr_T} {I : pr_I} {L : pr_L} {m : Nat} {σ : pr_I} {r : Nat} {x : Int32} (hm : pr_Mo T m) (hI : mI σ) (hr : r < 40) (hx : vp_in x 24) (ht5 : mtn σ < 500) : pr_M g l 2 0 0 mX8_issues [.ref m, .int (nI r), .int x] T (rg_put I m 16 σ) L (pr_R none T (rg_put I m 16 (m_is σ r x)) L) pr_no := by
  refine pr_ofG (by decide) rfl hl (Nat.le_of_ble_eq_true rfl) (fun X hA hX hXn hXt => ?_)
  subst hX
  show pr_G g X mX8_issues.2.2.1 _ 0 0 0 [.ref m, .int (nI r), .int x, .null, .null] [] T (rg_put I m 16 σ) L
  have hn5 := mI_n5 hI
  have hr4 := mI_nr4 hI
  have hl24 := mI_nl24 hI
  have hn12 := mI_nn12 hI
  have hx1 := vp_in_lt hx
  refine pr_aload_n hA dX8_issues_0 rfl ?_
  refine pr_getR hA f_X8_9 rfl (mo_k0 hm) (mo_f0_0 hm) dX8_issues_1 ?_
  refine pr_bipush hA (nI 9) dX8_issues_4 (by decide) ?_
  refine pr_ialdM (v := (nI (mtn σ))) hA (mo_k1 hm) (by omega) (by omega) ((rg_val (by decide)).trans (mI_n hI)) dX8_issues_6 ?_
  refine pr_istore_n (ls' := [_, _, _, _, _]) hA dX8_issues_7 (by decide) rfl ?_
  refine pr_aload_n hA dX8_issues_8 rfl ?_
  refine pr_iload_n hA dX8_issues_9 rfl ?_
  refine pr_iconst hA (3) dX8_issues_10 (by decide) ?_
  refine pr_callVi hA [.int x, .int (3 : Int32)] (c_m_linkx (m := m) (x := x) (c := 3) (σ := σ) (pr_hl hA) hm (by assumption) (by omega)) v_X8_204 (mo_k0 hm) (by decide) rfl rfl rfl (by decide) (Nat.zero_le _) (Nat.zero_le _) rfl (Nat.le_of_ble_eq_true rfl) dX8_issues_11 ?_
  refine pr_aload_n hA dX8_issues_14 rfl ?_
  refine pr_iload_n hA dX8_issues_15 rfl ?_
  refine pr_iconst hA (2) dX8_issues_16 (by decide) ?_
  refine pr_callVi hA [.int (nI r), .int (2 : Int32)] (c_m_req (m := m) (k := r) (c := 2) (σ := σ) (pr_hl hA) hm (by omega) (by omega)) v_X8_229 (mo_k0 hm) (by decide) rfl rfl rfl (by decide) (Nat.zero_le _) (Nat.zero_le _) rfl (Nat.le_of_ble_eq_true rfl) dX8_issues_17 ?_
  refine pr_imul hA dX8_issues_20 ?_
  refine pr_istore (ls' := [_, _, _, _, _]) hA dX8_issues_21 (by decide) rfl ?_
  refine pr_aload_n hA dX8_issues_23 rfl ?_
  refine pr_iload_n hA dX8_issues_24 rfl ?_
  refine pr_iconst hA (0) dX8_issues_25 (by decide) ?_
  refine pr_iload_n hA dX8_issues_26 rfl ?_
  refine pr_callVv hA [.int (nI (mtn σ)), .int (0 : Int32), .int (nI r)] (c_m_putTick (m := m) (k := (mtn σ)) (c := 0) (σ := σ) (pr_hl hA) hm (by omega) (by omega)) v_X8_242 (mo_k0 hm) (by decide) rfl rfl rfl (by decide) (Nat.zero_le _) (Nat.zero_le _) rfl (Nat.le_of_ble_eq_true rfl) dX8_issues_27 ?_
  refine pr_aload_n hA dX8_issues_30 rfl ?_
  refine pr_iload_n hA dX8_issues_31 rfl ?_
  refine pr_iconst hA (1) dX8_issues_32 (by decide) ?_
  refine pr_iload_n hA dX8_issues_33 rfl ?_
  refine pr_callVv hA [.int (nI (mtn σ)), .int (1 : Int32), .int x] (c_m_putTick (m := m) (k := (mtn σ)) (c := 1) (σ := (pr_up σ 1 (1384 + 8 * (mtn σ) + 0) (nI r))) (pr_hl hA) hm (by omega) (by omega)) v_X8_242 (mo_k0 hm) (by decide) rfl rfl rfl (by decide) (Nat.zero_le _) (Nat.zero_le _) rfl (Nat.le_of_ble_eq_true rfl) dX8_issues_34 ?_
  refine pr_aload_n hA dX8_issues_37 rfl ?_
  refine pr_iload_n hA dX8_issues_38 rfl ?_
  refine pr_iconst hA (2) dX8_issues_39 (by decide) ?_
  refine pr_aload_n hA dX8_issues_40 rfl ?_
  refine pr_iload_n hA dX8_issues_41 rfl ?_
  refine pr_iconst hA (2) dX8_issues_42 (by decide) ?_
  refine pr_callVi hA [.int (nI r), .int (2 : Int32)] (c_m_req (m := m) (k := r) (c := 2) (σ := (pr_up (pr_up σ 1 (1384 + 8 * (mtn σ) + 0) (nI r)) 1 (1384 + 8 * (mtn σ) + 1) x)) (pr_hl hA) hm (by omega) (by omega)) v_X8_229 (mo_k0 hm) (by decide) rfl rfl rfl (by decide) (Nat.zero_le _) (Nat.zero_le _) rfl (Nat.le_of_ble_eq_true rfl) dX8_issues_43 ?_
  rw [show ((pr_up (pr_up σ 1 (1384 + 8 * (mtn σ) + 0) (nI r)) 1 (1384 + 8 * (mtn σ) + 1) x) 1 (264 + 28 * r + 2)) = (σ 1 (264 + 28 * r + 2)) from ((pr_upk (by omega)).trans (pr_upk (by omega)))]
  refine pr_callVv hA [.int (nI (mtn σ)), .int (2 : Int32), .int (σ 1 (264 + 28 * r + 2))] (c_m_putTick (m := m) (k := (mtn σ)) (c := 2) (σ := (pr_up (pr_up σ 1 (1384 + 8 * (mtn σ) + 0) (nI r)) 1 (1384 + 8 * (mtn σ) + 1) x)) (pr_hl hA) hm (by omega) (by omega)) v_X8_242 (mo_k0 hm) (by decide) rfl rfl rfl (by decide) (Nat.zero_le _) (Nat.zero_le _) rfl (Nat.le_of_ble_eq_true rfl) dX8_issues_46 ?_
  refine pr_aload_n hA dX8_issues_49 rfl ?_
  refine pr_iload_n hA dX8_issues_50 rfl ?_
  refine pr_iconst hA (3) dX8_issues_51 (by decide) ?_
  refine pr_aload_n hA dX8_issues_52 rfl ?_
  refine pr_getR hA f_X8_9 rfl (mo_k0 hm) (mo_f0_0 hm) dX8_issues_53 ?_
  refine pr_iconst hA (nI 0) dX8_issues_56 (by decide) ?_
  refine pr_ialdM (v := (σ 1 0)) hA (mo_k1 hm) (by omega) (by omega) ((rg_val (by decide)).trans ((pr_upk (by omega)).trans ((pr_upk (by omega)).trans (pr_upk (by omega))))) dX8_issues_57 ?_
  refine pr_callVv hA [.int (nI (mtn σ)), .int (3 : Int32), .int (σ 1 0)] (c_m_putTick (m := m) (k := (mtn σ)) (c := 3) (σ := (pr_up (pr_up (pr_up σ 1 (1384 + 8 * (mtn σ) + 0) (nI r)) 1 (1384 + 8 * (mtn σ) + 1) x) 1 (1384 + 8 * (mtn σ) + 2) (σ 1 (264 + 28 * r + 2)))) (pr_hl hA) hm (by omega) (by omega)) v_X8_242 (mo_k0 hm) (by decide) rfl rfl rfl (by decide) (Nat.zero_le _) (Nat.zero_le _) rfl (Nat.le_of_ble_eq_true rfl) dX8_issues_58 ?_
  refine pr_aload_n hA dX8_issues_61 rfl ?_
  refine pr_iload_n hA dX8_issues_62 rfl ?_
  refine pr_iconst hA (4) dX8_issues_63 (by decide) ?_
  refine pr_aload_n hA dX8_issues_64 rfl ?_
  refine pr_getR hA f_X8_9 rfl (mo_k0 hm) (mo_f0_0 hm) dX8_issues_65 ?_
  refine pr_iconst hA (nI 0) dX8_issues_68 (by decide) ?_
  refine pr_ialdM (v := (σ 1 0)) hA (mo_k1 hm) (by omega) (by omega) ((rg_val (by decide)).trans ((pr_upk (by omega)).trans ((pr_upk (by omega)).trans ((pr_upk (by omega)).trans (pr_upk (by omega)))))) dX8_issues_69 ?_
  refine pr_aload_n hA dX8_issues_70 rfl ?_
  refine pr_getR hA f_X8_9 rfl (mo_k0 hm) (mo_f0_0 hm) dX8_issues_71 ?_
  refine pr_iconst hA (nI 1) dX8_issues_74 (by decide) ?_
  refine pr_ialdM (v := (σ 1 1)) hA (mo_k1 hm) (by omega) (by omega) ((rg_val (by decide)).trans ((pr_upk (by omega)).trans ((pr_upk (by omega)).trans ((pr_upk (by omega)).trans (pr_upk (by omega)))))) dX8_issues_75 ?_
  refine pr_iadd hA dX8_issues_76 ?_
  refine pr_callVv hA [.int (nI (mtn σ)), .int (4 : Int32), .int ((σ 1 0) + (σ 1 1))] (c_m_putTick (m := m) (k := (mtn σ)) (c := 4) (σ := (pr_up (pr_up (pr_up (pr_up σ 1 (1384 + 8 * (mtn σ) + 0) (nI r)) 1 (1384 + 8 * (mtn σ) + 1) x) 1 (1384 + 8 * (mtn σ) + 2) (σ 1 (264 + 28 * r + 2))) 1 (1384 + 8 * (mtn σ) + 3) (σ 1 0))) (pr_hl hA) hm (by omega) (by omega)) v_X8_242 (mo_k0 hm) (by decide) rfl rfl rfl (by decide) (Nat.zero_le _) (Nat.zero_le _) rfl (Nat.le_of_ble_eq_true rfl) dX8_issues_77 ?_
  refine pr_aload_n hA dX8_issues_80 rfl ?_
  refine pr_iload_n hA dX8_issues_81 rfl ?_
  refine pr_iconst hA (5) dX8_issues_82 (by decide) ?_
  refine pr_iconst hA (0) dX8_issues_83 (by decide) ?_
  refine pr_callVv hA [.int (nI (mtn σ)), .int (5 : Int32), .int (0 : Int32)] (c_m_putTick (m := m) (k := (mtn σ)) (c := 5) (σ := (pr_up (pr_up (pr_up (pr_up (pr_up σ 1 (1384 + 8 * (mtn σ) + 0) (nI r)) 1 (1384 + 8 * (mtn σ) + 1) x) 1 (1384 + 8 * (mtn σ) + 2) (σ 1 (264 + 28 * r + 2))) 1 (1384 + 8 * (mtn σ) + 3) (σ 1 0)) 1 (1384 + 8 * (mtn σ) + 4) ((σ 1 0) + (σ 1 1)))) (pr_hl hA) hm (by omega) (by omega)) v_X8_242 (mo_k0 hm) (by decide) rfl rfl rfl (by decide) (Nat.zero_le _) (Nat.zero_le _) rfl (Nat.le_of_ble_eq_true rfl) dX8_issues_84 ?_
  refine pr_aload_n hA dX8_issues_87 rfl ?_
  refine pr_iload_n hA dX8_issues_88 rfl ?_
  refine pr_bipush hA (6) dX8_issues_89 (by decide) ?_
  refine pr_iload hA dX8_issues_91 rfl ?_
  refine pr_callVv hA [.int (nI (mtn σ)), .int (6 : Int32), .int ((σ 1 (96 + 7 * x.toNatClampNeg + 3)) * (σ 1 (264 + 28 * r + 2)))] (c_m_putTick (m := m) (k := (mtn σ)) (c := 6) (σ := (pr_up (pr_up (pr_up (pr_up (pr_up (pr_up σ 1 (1384 + 8 * (mtn σ) + 0) (nI r)) 1 (1384 + 8 * (mtn σ) + 1) x) 1 (1384 + 8 * (mtn σ) + 2) (σ 1 (264 + 28 * r + 2))) 1 (1384 + 8 * (mtn σ) + 3) (σ 1 0)) 1 (1384 + 8 * (mtn σ) + 4) ((σ 1 0) + (σ 1 1))) 1 (1384 + 8 * (mtn σ) + 5) (0 : Int32))) (pr_hl hA) hm (by omega) (by omega)) v_X8_242 (mo_k0 hm) (by decide) rfl rfl rfl (by decide) (Nat.zero_le _) (Nat.zero_le _) rfl (Nat.le_of_ble_eq_true rfl) dX8_issues_93 ?_
  refine pr_aload_n hA dX8_issues_96 rfl ?_
  refine pr_iload_n hA dX8_issues_97 rfl ?_
  refine pr_bipush hA (7) dX8_issues_98 (by decide) ?_
  refine pr_iconst hA (0) dX8_issues_100 (by decide) ?_
  refine pr_callVv hA [.int (nI (mtn σ)), .int (7 : Int32), .int (0 : Int32)] (c_m_putTick (m := m) (k := (mtn σ)) (c := 7) (σ := (pr_up (pr_up (pr_up (pr_up (pr_up (pr_up (pr_up σ 1 (1384 + 8 * (mtn σ) + 0) (nI r)) 1 (1384 + 8 * (mtn σ) + 1) x) 1 (1384 + 8 * (mtn σ) + 2) (σ 1 (264 + 28 * r + 2))) 1 (1384 + 8 * (mtn σ) + 3) (σ 1 0)) 1 (1384 + 8 * (mtn σ) + 4) ((σ 1 0) + (σ 1 1))) 1 (1384 + 8 * (mtn σ) + 5) (0 : Int32)) 1 (1384 + 8 * (mtn σ) + 6) ((σ 1 (96 + 7 * x.toNatClampNeg + 3)) * (σ 1 (264 + 28 * r + 2))))) (pr_hl hA) hm (by omega) (by omega)) v_X8_242 (mo_k0 hm) (by decide) rfl rfl rfl (by decide) (Nat.zero_le _) (Nat.zero_le _) rfl (Nat.le_of_ble_eq_true rfl) dX8_issues_101 ?_
  refine pr_aload_n hA dX8_issues_104 rfl ?_
  refine pr_iload_n hA dX8_issues_105 rfl ?_
  refine pr_bipush hA (7) dX8_issues_106 (by decide) ?_
  refine pr_aload_n hA dX8_issues_108 rfl ?_
  refine pr_iload_n hA dX8_issues_109 rfl ?_
  refine pr_bipush hA (7) dX8_issues_110 (by decide) ?_
  refine pr_callVi hA [.int (nI r), .int (7 : Int32)] (c_m_req (m := m) (k := r) (c := 7) (σ := (pr_up (pr_up (pr_up (pr_up (pr_up (pr_up (pr_up (pr_up σ 1 (1384 + 8 * (mtn σ) + 0) (nI r)) 1 (1384 + 8 * (mtn σ) + 1) x) 1 (1384 + 8 * (mtn σ) + 2) (σ 1 (264 + 28 * r + 2))) 1 (1384 + 8 * (mtn σ) + 3) (σ 1 0)) 1 (1384 + 8 * (mtn σ) + 4) ((σ 1 0) + (σ 1 1))) 1 (1384 + 8 * (mtn σ) + 5) (0 : Int32)) 1 (1384 + 8 * (mtn σ) + 6) ((σ 1 (96 + 7 * x.toNatClampNeg + 3)) * (σ 1 (264 + 28 * r + 2)))) 1 (1384 + 8 * (mtn σ) + 7) (0 : Int32))) (pr_hl hA) hm (by omega) (by omega)) v_X8_229 (mo_k0 hm) (by decide) rfl rfl rfl (by decide) (Nat.zero_le _) (Nat.zero_le _) rfl (Nat.le_of_ble_eq_true rfl) dX8_issues_112 ?_
  rw [show ((pr_up (pr_up (pr_up (pr_up (pr_up (pr_up (pr_up (pr_up σ 1 (1384 + 8 * (mtn σ) + 0) (nI r)) 1 (1384 + 8 * (mtn σ) + 1) x) 1 (1384 + 8 * (mtn σ) + 2) (σ 1 (264 + 28 * r + 2))) 1 (1384 + 8 * (mtn σ) + 3) (σ 1 0)) 1 (1384 + 8 * (mtn σ) + 4) ((σ 1 0) + (σ 1 1))) 1 (1384 + 8 * (mtn σ) + 5) (0 : Int32)) 1 (1384 + 8 * (mtn σ) + 6) ((σ 1 (96 + 7 * x.toNatClampNeg + 3)) * (σ 1 (264 + 28 * r + 2)))) 1 (1384 + 8 * (mtn σ) + 7) (0 : Int32)) 1 (264 + 28 * r + 7)) = (σ 1 (264 + 28 * r + 7)) from ((pr_upk (by omega)).trans ((pr_upk (by omega)).trans ((pr_upk (by omega)).trans ((pr_upk (by omega)).trans ((pr_upk (by omega)).trans ((pr_upk (by omega)).trans ((pr_upk (by omega)).trans (pr_upk (by omega)))))))))]
  refine pr_iload hA dX8_issues_115 rfl ?_
  refine pr_iadd hA dX8_issues_117 ?_
  refine pr_callVv hA [.int (nI r), .int (7 : Int32), .int ((σ 1 (264 + 28 * r + 7)) + ((σ 1 (96 + 7 * x.toNatClampNeg + 3)) * (σ 1 (264 + 28 * r + 2))))] (c_m_putReq (m := m) (k := r) (c := 7) (σ := (pr_up (pr_up (pr_up (pr_up (pr_up (pr_up (pr_up (pr_up σ 1 (1384 + 8 * (mtn σ) + 0) (nI r)) 1 (1384 + 8 * (mtn σ) + 1) x) 1 (1384 + 8 * (mtn σ) + 2) (σ 1 (264 + 28 * r + 2))) 1 (1384 + 8 * (mtn σ) + 3) (σ 1 0)) 1 (1384 + 8 * (mtn σ) + 4) ((σ 1 0) + (σ 1 1))) 1 (1384 + 8 * (mtn σ) + 5) (0 : Int32)) 1 (1384 + 8 * (mtn σ) + 6) ((σ 1 (96 + 7 * x.toNatClampNeg + 3)) * (σ 1 (264 + 28 * r + 2)))) 1 (1384 + 8 * (mtn σ) + 7) (0 : Int32))) (pr_hl hA) hm (by omega) (by omega)) v_X8_238 (mo_k0 hm) (by decide) rfl rfl rfl (by decide) (Nat.zero_le _) (Nat.zero_le _) rfl (Nat.le_of_ble_eq_true rfl) dX8_issues_118 ?_
  refine pr_aload_n hA dX8_issues_121 rfl ?_
  refine pr_getR hA f_X8_9 rfl (mo_k0 hm) (mo_f0_0 hm) dX8_issues_122 ?_
  refine pr_bipush hA (nI 9) dX8_issues_125 (by decide) ?_
  refine pr_dup2 hA dX8_issues_127 rfl rfl ?_
  refine pr_ialdM (v := (nI (mtn σ))) hA (mo_k1 hm) (by omega) (by omega) ((rg_val (by decide)).trans ((pr_upk (by omega)).trans ((pr_upk (by omega)).trans ((pr_upk (by omega)).trans ((pr_upk (by omega)).trans ((pr_upk (by omega)).trans ((pr_upk (by omega)).trans ((pr_upk (by omega)).trans ((pr_upk (by omega)).trans ((pr_upk (by omega)).trans (mI_n hI))))))))))) dX8_issues_128 ?_
  refine pr_iconst hA (1) dX8_issues_129 (by decide) ?_
  refine pr_iaddE (v := nI ((mtn σ) + 1)) hA (nI_1 _) dX8_issues_130 ?_
  refine pr_iastM (I' := (rg_put I m 16 (pr_up (pr_up (pr_up (pr_up (pr_up (pr_up (pr_up (pr_up (pr_up (pr_up σ 1 (1384 + 8 * (mtn σ) + 0) (nI r)) 1 (1384 + 8 * (mtn σ) + 1) x) 1 (1384 + 8 * (mtn σ) + 2) (σ 1 (264 + 28 * r + 2))) 1 (1384 + 8 * (mtn σ) + 3) (σ 1 0)) 1 (1384 + 8 * (mtn σ) + 4) ((σ 1 0) + (σ 1 1))) 1 (1384 + 8 * (mtn σ) + 5) (0 : Int32)) 1 (1384 + 8 * (mtn σ) + 6) ((σ 1 (96 + 7 * x.toNatClampNeg + 3)) * (σ 1 (264 + 28 * r + 2)))) 1 (1384 + 8 * (mtn σ) + 7) (0 : Int32)) 1 (264 + 28 * r + 7) ((σ 1 (264 + 28 * r + 7)) + ((σ 1 (96 + 7 * x.toNatClampNeg + 3)) * (σ 1 (264 + 28 * r + 2))))) 1 9 (nI ((mtn σ) + 1))))) hA (mo_k1 hm) (by omega) (by omega) (rg_up (by decide)) dX8_issues_131 ?_
  exact pr_return hA rfl (Nat.zero_le _) (Nat.zero_le _) dX8_issues_132 ⟨rfl, rfl, rfl, rfl⟩

theorem fr_m_is {σ : pr_I} {r : Nat} {x : Int32} {o : Nat} (hms : ∀ m ∈ ([1] : List Nat), o ≠ m) : m_is σ r x o = σ o := by
  unfold m_is
  simp only [List.mem_cons, List.not_mem_nil, or_false, forall_eq_or_imp, forall_eq] at hms
  rw [pr_up_ne (by omega), pr_up_ne (by omega), pr_up_ne (by omega), pr_up_ne (by omega), pr_up_ne (by omega), pr_up_ne (by omega), pr_up_ne (by omega), pr_up_ne (by omega), pr_up_ne (by omega), pr_up_ne (by omega)]

theorem fw_m_is {σ : pr_I} {r : Nat} {x : Int32} {j0 : Nat} (hj : j0 < 12) (hmw : ∀ m ∈ ([9] : List Nat), j0 ≠ m) : m_is σ r x 1 j0 = σ 1 j0 := by
  simp only [List.mem_cons, List.not_mem_nil, or_false, forall_eq_or_imp, forall_eq] at hmw
  unfold m_is
  exact ((pr_upk (by omega)).trans ((pr_upk (by omega)).trans ((pr_upk (by omega)).trans ((pr_upk (by omega)).trans ((pr_upk (by omega)).trans ((pr_upk (by omega)).trans ((pr_upk (by omega)).trans ((pr_upk (by omega)).trans ((pr_upk (by omega)).trans (pr_upk (by omega)))))))))))
theorem mI_m_is {σ : pr_I} {r : Nat} {x : Int32} (hr : r < 40) (hx : vp_in x 24) (ht5 : mtn σ < 500) (hI : mI σ) : mI (m_is σ r x) := by
  have q : ∀ {c : Nat} {S : pr_I} {v : Int32}, c < 8 → mT c = none → mI S → mI (pr_up S 1 (1384 + 8 * mtn σ + c) v) := fun hc e h => mI.upn h ((mW_tick ht5 hc).trans e)
  unfold m_is
  exact mI.upv (mI.upn (q (by decide) rfl (q (by decide) rfl (q (by decide) rfl (q (by decide) rfl (q (by decide) rfl (q (by decide) rfl (mI.upv (mI.upv hI ((mW_tick ht5 (by decide)).trans rfl) (nI_vin hr (by decide))) ((mW_tick ht5 (by decide)).trans rfl) hx))))))) ((mW_req hr (by decide)).trans rfl)) rfl (nI_vin (by omega) (by decide))
