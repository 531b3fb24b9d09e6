theorem mI_m_fi {σ : pr_I} {s t u : Int32} (hI : mI σ) (hs : vp_in s 12) : mI (m_fi σ s t u) := by
  have h1 : mI (m_lp σ t u) := mI_89 hI (fun h => fr_m_lp h)
  have h2 : vp_in (0 : Int32) 13 := nI_vin (k := 0) (n := 13) (by decide) (by decide)
  unfold m_fi
  exact I_ite (P := mI) (h1.upv (B := 13) rfl h2) (fi_I hI hs (sl 12) (by have := sl_eq 12; omega)).1
noncomputable def m_at_it62 (σ : pr_I) (r : Nat) : Nat → pr_I
  | 0 => (pr_up (m_fi σ (σ 1 (264 + 28 * r + 0)) (σ 1 (264 + 28 * r + 1)) ((m_up_r σ (mln σ)) &&& ((σ 1 (264 + 28 * r + 9)) ^^^ ((-1) : Int32)))) 1 (264 + 28 * r + 13) ((m_fi σ (σ 1 (264 + 28 * r + 0)) (σ 1 (264 + 28 * r + 1)) ((m_up_r σ (mln σ)) &&& ((σ 1 (264 + 28 * r + 9)) ^^^ ((-1) : Int32)))) 0 17))
  | k + 1 => (pr_up (m_at_it62 σ r k) 1 (264 + 28 * r + (15 + k)) ((m_fi σ (σ 1 (264 + 28 * r + 0)) (σ 1 (264 + 28 * r + 1)) ((m_up_r σ (mln σ)) &&& ((σ 1 (264 + 28 * r + 9)) ^^^ ((-1) : Int32)))) 10 k))
theorem fr_m_at_it62 {σ : pr_I} {r : Nat} {o : Nat} (hms : ∀ m ∈ ([1] : List Nat), o ≠ m) : ∀ {k : Nat}, (m_at_it62 σ r k) o = (pr_up (m_fi σ (σ 1 (264 + 28 * r + 0)) (σ 1 (264 + 28 * r + 1)) ((m_up_r σ (mln σ)) &&& ((σ 1 (264 + 28 * r + 9)) ^^^ ((-1) : Int32)))) 1 (264 + 28 * r + 13) ((m_fi σ (σ 1 (264 + 28 * r + 0)) (σ 1 (264 + 28 * r + 1)) ((m_up_r σ (mln σ)) &&& ((σ 1 (264 + 28 * r + 9)) ^^^ ((-1) : Int32)))) 0 17)) o := by
  simp only [List.mem_cons, List.not_mem_nil, or_false, forall_eq_or_imp, forall_eq] at hms
  intro k
  induction k with
  | zero =>
    show (pr_up (m_fi σ (σ 1 (264 + 28 * r + 0)) (σ 1 (264 + 28 * r + 1)) ((m_up_r σ (mln σ)) &&& ((σ 1 (264 + 28 * r + 9)) ^^^ ((-1) : Int32)))) 1 (264 + 28 * r + 13) ((m_fi σ (σ 1 (264 + 28 * r + 0)) (σ 1 (264 + 28 * r + 1)) ((m_up_r σ (mln σ)) &&& ((σ 1 (264 + 28 * r + 9)) ^^^ ((-1) : Int32)))) 0 17)) o = (pr_up (m_fi σ (σ 1 (264 + 28 * r + 0)) (σ 1 (264 + 28 * r + 1)) ((m_up_r σ (mln σ)) &&& ((σ 1 (264 + 28 * r + 9)) ^^^ ((-1) : Int32)))) 1 (264 + 28 * r + 13) ((m_fi σ (σ 1 (264 + 28 * r + 0)) (σ 1 (264 + 28 * r + 1)) ((m_up_r σ (mln σ)) &&& ((σ 1 (264 + 28 * r + 9)) ^^^ ((-1) : Int32)))) 0 17)) o
    rfl
  | succ k ih =>
    show (pr_up (m_at_it62 σ r k) 1 (264 + 28 * r + (15 + k)) ((m_fi σ (σ 1 (264 + 28 * r + 0)) (σ 1 (264 + 28 * r + 1)) ((m_up_r σ (mln σ)) &&& ((σ 1 (264 + 28 * r + 9)) ^^^ ((-1) : Int32)))) 10 k)) o = (pr_up (m_fi σ (σ 1 (264 + 28 * r + 0)) (σ 1 (264 + 28 * r + 1)) ((m_up_r σ (mln σ)) &&& ((σ 1 (264 + 28 * r + 9)) ^^^ ((-1) : Int32)))) 1 (264 + 28 * r + 13) ((m_fi σ (σ 1 (264 + 28 * r + 0)) (σ 1 (264 + 28 * r + 1)) ((m_up_r σ (mln σ)) &&& ((σ 1 (264 + 28 * r + 9)) ^^^ ((-1) : Int32)))) 0 17)) o
    rw [pr_up_ne (by omega), ih]
theorem fw_m_at_it62 {σ : pr_I} {r : Nat} {j0 : Nat} (hj : j0 < 12) (hmw : ∀ m ∈ ([] : List Nat), j0 ≠ m) : ∀ {k : Nat}, (m_at_it62 σ r k) 1 j0 = (pr_up (m_fi σ (σ 1 (264 + 28 * r + 0)) (σ 1 (264 + 28 * r + 1)) ((m_up_r σ (mln σ)) &&& ((σ 1 (264 + 28 * r + 9)) ^^^ ((-1) : Int32)))) 1 (264 + 28 * r + 13) ((m_fi σ (σ 1 (264 + 28 * r + 0)) (σ 1 (264 + 28 * r + 1)) ((m_up_r σ (mln σ)) &&& ((σ 1 (264 + 28 * r + 9)) ^^^ ((-1) : Int32)))) 0 17)) 1 j0 := by
  intro k
  induction k with
  | zero => rfl
  | succ k ih =>
    show (pr_up (m_at_it62 σ r k) 1 (264 + 28 * r + (15 + k)) ((m_fi σ (σ 1 (264 + 28 * r + 0)) (σ 1 (264 + 28 * r + 1)) ((m_up_r σ (mln σ)) &&& ((σ 1 (264 + 28 * r + 9)) ^^^ ((-1) : Int32)))) 10 k)) 1 j0 = (pr_up (m_fi σ (σ 1 (264 + 28 * r + 0)) (σ 1 (264 + 28 * r + 1)) ((m_up_r σ (mln σ)) &&& ((σ 1 (264 + 28 * r + 9)) ^^^ ((-1) : Int32)))) 1 (264 + 28 * r + 13) ((m_fi σ (σ 1 (264 + 28 * r + 0)) (σ 1 (264 + 28 * r + 1)) ((m_up_r σ (mln σ)) &&& ((σ 1 (264 + 28 * r + 9)) ^^^ ((-1) : Int32)))) 0 17)) 1 j0
    exact ((pr_upk (by omega)).trans ih)

noncomputable def m_at (σ : pr_I) (r : Nat) : pr_I := (if (m_fi_r σ (σ 1 (264 + 28 * r + 0)) (σ 1 (264 + 28 * r + 1)) ((m_up_r σ (mln σ)) &&& ((σ 1 (264 + 28 * r + 9)) ^^^ ((-1) : Int32)))) = 0 then (pr_up (pr_up (m_fi σ (σ 1 (264 + 28 * r + 0)) (σ 1 (264 + 28 * r + 1)) ((m_up_r σ (mln σ)) &&& ((σ 1 (264 + 28 * r + 9)) ^^^ ((-1) : Int32)))) 1 (264 + 28 * r + 4) (4 : Int32)) 1 (264 + 28 * r + 6) ((-1) : Int32)) else (pr_up (pr_up (pr_up (m_at_it62 σ r (((m_fi σ (σ 1 (264 + 28 * r + 0)) (σ 1 (264 + 28 * r + 1)) ((m_up_r σ (mln σ)) &&& ((σ 1 (264 + 28 * r + 9)) ^^^ ((-1) : Int32)))) 0 17).toNatClampNeg)) 1 (264 + 28 * r + 4) (0 : Int32)) 1 (264 + 28 * r + 14) (0 : Int32)) 1 (264 + 28 * r + 6) (σ 1 0)))
set_option maxRecDepth 100000 in
set_option maxHeartbeats 400000 in
theorem c_m_at {g : pr_C} {l : Launch} (hl : l.stackTraces = false) {T : pr_T} {I : pr_I} {L : pr_L} {m : Nat} {σ : pr_I} {r : Nat} (hm : pr_Mo T m) (hI : mI σ) (hr : r < 40) (hend0 : m_lp_it51_e σ (σ 1 (264 + 28 * r + 1)) ((m_up_r σ (mln σ)) &&& ((σ 1 (264 + 28 * r + 9)) ^^^ ((-1) : Int32))) (sl 13) = true) (hend : ¬ (m_lp σ (σ 1 (264 + 28 * r + 1)) ((m_up_r σ (mln σ)) &&& ((σ 1 (264 + 28 * r + 9)) ^^^ ((-1) : Int32)))) 8 (σ 1 (264 + 28 * r + 0)).toNatClampNeg = (1000000000 : Int32) → m_fi_it27_e σ (σ 1 (264 + 28 * r + 0)) (σ 1 (264 + 28 * r + 1)) ((m_up_r σ (mln σ)) &&& ((σ 1 (264 + 28 * r + 9)) ^^^ ((-1) : Int32))) (sl 12) = true) (hin : ¬ (m_lp σ (σ 1 (264 + 28 * r + 1)) ((m_up_r σ (mln σ)) &&& ((σ 1 (264 + 28 * r + 9)) ^^^ ((-1) : Int32)))) 8 (σ 1 (264 + 28 * r + 0)).toNatClampNeg = (1000000000 : Int32) → ∀ k, ¬ (m_fi_it27 σ (σ 1 (264 + 28 * r + 0)) (σ 1 (264 + 28 * r + 1)) ((m_up_r σ (mln σ)) &&& ((σ 1 (264 + 28 * r + 9)) ^^^ ((-1) : Int32))) k).2 = (σ 1 (264 + 28 * r + 1)) → m_fi_it36_e σ (m_fi_it27 σ (σ 1 (264 + 28 * r + 0)) (σ 1 (264 + 28 * r + 1)) ((m_up_r σ (mln σ)) &&& ((σ 1 (264 + 28 * r + 9)) ^^^ ((-1) : Int32))) k).1 (σ 1 (264 + 28 * r + 0)) (σ 1 (264 + 28 * r + 1)) ((m_up_r σ (mln σ)) &&& ((σ 1 (264 + 28 * r + 9)) ^^^ ((-1) : Int32))) k ((m_fi_it27 σ (σ 1 (264 + 28 * r + 0)) (σ 1 (264 + 28 * r + 1)) ((m_up_r σ (mln σ)) &&& ((σ 1 (264 + 28 * r + 9)) ^^^ ((-1) : Int32))) k).2) (sl 23) = true) : pr_M g l 6 0 0 mX8_attempts [.ref m, .int (nI r)] T (rg_put I m 16 σ) L (pr_R none T (rg_put I m 16 (m_at σ r)) L) pr_no := by
  refine pr_ofG (by decide) rfl hl (Nat.le_of_ble_eq_true rfl) (fun X hA hX hXn hXt => ?_)
  subst hX
  show pr_G g X mX8_attempts.2.2.1 _ 0 0 0 [.ref m, .int (nI r), .null] [] T (rg_put I m 16 σ) L
  have hn5 := mI_n5 hI
  have hr4 := mI_nr4 hI
  have hl24 := mI_nl24 hI
  have hn12 := mI_nn12 hI
  have hs0 : vp_in (σ 1 (264 + 28 * r + 0)) 12 := (mI_req hI (k := r) (c := 0) hr (by decide) rfl)
  have ht0 : vp_in (σ 1 (264 + 28 * r + 1)) 12 := (mI_req hI (k := r) (c := 1) hr (by decide) rfl)
  have hn0 : vp_in ((m_fi σ (σ 1 (264 + 28 * r + 0)) (σ 1 (264 + 28 * r + 1)) ((m_up_r σ (mln σ)) &&& ((σ 1 (264 + 28 * r + 9)) ^^^ ((-1) : Int32)))) 0 17) 13 := mI_m_fi hI hs0 0 17 13 rfl
  have hn1 := vp_in_lt hn0
  refine pr_aload_n hA dX8_attempts_0 rfl ?_
  refine pr_aload_n hA dX8_attempts_1 rfl ?_
  refine pr_iload_n hA dX8_attempts_2 rfl ?_
  refine pr_iconst hA (0) dX8_attempts_3 (by decide) ?_
  refine pr_callVi hA [.int (nI r), .int (0 : Int32)] (c_m_req (m := m) (k := r) (c := 0) (σ := σ) (pr_hl hA) hm (by omega) (by omega)) v_X8_229 (mo_k0 hm) (by decide) rfl rfl rfl (by decide) (Nat.zero_le _) (Nat.zero_le _) rfl (Nat.le_of_ble_eq_true rfl) dX8_attempts_4 ?_
  refine pr_aload_n hA dX8_attempts_7 rfl ?_
  refine pr_iload_n hA dX8_attempts_8 rfl ?_
  refine pr_iconst hA (1) dX8_attempts_9 (by decide) ?_
  refine pr_callVi hA [.int (nI r), .int (1 : Int32)] (c_m_req (m := m) (k := r) (c := 1) (σ := σ) (pr_hl hA) hm (by omega) (by omega)) v_X8_229 (mo_k0 hm) (by decide) rfl rfl rfl (by decide) (Nat.zero_le _) (Nat.zero_le _) rfl (Nat.le_of_ble_eq_true rfl) dX8_attempts_10 ?_
  refine pr_aload_n hA dX8_attempts_13 rfl ?_
  have hv14 : mI σ := hI
  refine pr_callVi hA [] (c_m_up (m := m) (σ := σ) (nl := (mln σ)) (pr_hl hA) hm (mI_nl hv14) (mI_nl24 hv14)) v_X8_232 (mo_k0 hm) (by decide) rfl rfl rfl (by decide) (Nat.zero_le _) (Nat.zero_le _) rfl (Nat.le_of_ble_eq_true rfl) dX8_attempts_14 ?_
  refine pr_aload_n hA dX8_attempts_17 rfl ?_
  refine pr_iload_n hA dX8_attempts_18 rfl ?_
  refine pr_bipush hA (9) dX8_attempts_19 (by decide) ?_
  refine pr_callVi hA [.int (nI r), .int (9 : Int32)] (c_m_req (m := m) (k := r) (c := 9) (σ := σ) (pr_hl hA) hm (by omega) (by omega)) v_X8_229 (mo_k0 hm) (by decide) rfl rfl rfl (by decide) (Nat.zero_le _) (Nat.zero_le _) rfl (Nat.le_of_ble_eq_true rfl) dX8_attempts_21 ?_
  refine pr_iconst hA ((-1)) dX8_attempts_24 (by decide) ?_
  refine pr_ixor hA dX8_attempts_25 ?_
  refine pr_iand hA dX8_attempts_26 ?_
  have hv27 : mI σ := hI
  refine pr_callVi hA [.int (σ 1 (264 + 28 * r + 0)), .int (σ 1 (264 + 28 * r + 1)), .int ((m_up_r σ (mln σ)) &&& ((σ 1 (264 + 28 * r + 9)) ^^^ ((-1) : Int32)))] (c_m_fi (m := m) (σ := σ) (s := (σ 1 (264 + 28 * r + 0))) (t := (σ 1 (264 + 28 * r + 1))) (u := ((m_up_r σ (mln σ)) &&& ((σ 1 (264 + 28 * r + 9)) ^^^ ((-1) : Int32)))) (pr_hl hA) hm hv27 (by first | omega | assumption) (by first | omega | assumption) (by first | omega | assumption) (by first | omega | assumption) (by first | omega | assumption)) v_X8_235 (mo_k0 hm) (by decide) rfl rfl rfl (by decide) (Nat.zero_le _) (Nat.zero_le _) rfl (Nat.le_of_ble_eq_true rfl) dX8_attempts_27 ?_
  refine pr_if_ne hA 49 dX8_attempts_30 (by decide) (fun c_30 => ?_) (fun c_30 => ?_)
  · refine pr_aload_n hA dX8_attempts_49 rfl ?_
    refine pr_iload_n hA dX8_attempts_50 rfl ?_
    refine pr_bipush hA (13) dX8_attempts_51 (by decide) ?_
    refine pr_aload_n hA dX8_attempts_53 rfl ?_
    refine pr_getE (v := ((m_fi σ (σ 1 (264 + 28 * r + 0)) (σ 1 (264 + 28 * r + 1)) ((m_up_r σ (mln σ)) &&& ((σ 1 (264 + 28 * r + 9)) ^^^ ((-1) : Int32)))) 0 17)) hA f_X8_223 rfl (mo_k0 hm) (rg_val0 (by decide)) dX8_attempts_54 ?_
    refine pr_callVv hA [.int (nI r), .int (13 : Int32), .int ((m_fi σ (σ 1 (264 + 28 * r + 0)) (σ 1 (264 + 28 * r + 1)) ((m_up_r σ (mln σ)) &&& ((σ 1 (264 + 28 * r + 9)) ^^^ ((-1) : Int32)))) 0 17)] (c_m_putReq (m := m) (k := r) (c := 13) (σ := (m_fi σ (σ 1 (264 + 28 * r + 0)) (σ 1 (264 + 28 * r + 1)) ((m_up_r σ (mln σ)) &&& ((σ 1 (264 + 28 * r + 9)) ^^^ ((-1) : Int32))))) (pr_hl hA) hm (by omega) (by omega)) v_X8_238 (mo_k0 hm) (by decide) rfl rfl rfl (by decide) (Nat.zero_le _) (Nat.zero_le _) rfl (Nat.le_of_ble_eq_true rfl) dX8_attempts_57 ?_
    refine pr_iconst hA (nI 0) dX8_attempts_60 (by decide) ?_
    refine pr_istore_n (ls' := [_, _, _]) hA dX8_attempts_61 (by decide) rfl ?_
    have lp62 : ∀ (j k : Nat), (((m_fi σ (σ 1 (264 + 28 * r + 0)) (σ 1 (264 + 28 * r + 1)) ((m_up_r σ (mln σ)) &&& ((σ 1 (264 + 28 * r + 9)) ^^^ ((-1) : Int32)))) 0 17).toNatClampNeg) - k = j → k ≤ (((m_fi σ (σ 1 (264 + 28 * r + 0)) (σ 1 (264 + 28 * r + 1)) ((m_up_r σ (mln σ)) &&& ((σ 1 (264 + 28 * r + 9)) ^^^ ((-1) : Int32)))) 0 17).toNatClampNeg) → pr_G g X mX8_attempts.2.2.1 (pr_MQ g X (pr_R none T (rg_put I m 16 (m_at σ r)) L) pr_no 0 0) 0 0 62 [.ref m, .int (nI r), .int (nI k)] [] T (rg_put I m 16 (m_at_it62 σ r k)) L := by
      intro j
      induction j using Nat.strongRecOn with | ind j ih62 =>
      intro k hj62 hk62
      refine pr_iload_n hA dX8_attempts_62 rfl ?_
      refine pr_aload_n hA dX8_attempts_63 rfl ?_
      refine pr_getE (v := ((m_fi σ (σ 1 (264 + 28 * r + 0)) (σ 1 (264 + 28 * r + 1)) ((m_up_r σ (mln σ)) &&& ((σ 1 (264 + 28 * r + 9)) ^^^ ((-1) : Int32)))) 0 17)) hA f_X8_223 rfl (mo_k0 hm) ((rg_val0 (by decide)).trans ((congrFun (fr_m_at_it62 (by decide)) _).trans (pr_upv (by decide)))) dX8_attempts_64 ?_
      rw [show ((m_fi σ (σ 1 (264 + 28 * r + 0)) (σ 1 (264 + 28 * r + 1)) ((m_up_r σ (mln σ)) &&& ((σ 1 (264 + 28 * r + 9)) ^^^ ((-1) : Int32)))) 0 17) = (nI (((m_fi σ (σ 1 (264 + 28 * r + 0)) (σ 1 (264 + 28 * r + 1)) ((m_up_r σ (mln σ)) &&& ((σ 1 (264 + 28 * r + 9)) ^^^ ((-1) : Int32)))) 0 17).toNatClampNeg)) from (vp_nI hn0 (by decide))]
      refine pr_icmp_ge hA 91 dX8_attempts_67 (by decide) (fun c_67 => ?_) (fun c_67 => ?_)
      · have n_67 : ((m_fi σ (σ 1 (264 + 28 * r + 0)) (σ 1 (264 + 28 * r + 1)) ((m_up_r σ (mln σ)) &&& ((σ 1 (264 + 28 * r + 9)) ^^^ ((-1) : Int32)))) 0 17).toNatClampNeg ≤ k := (nI_leI (by omega) (by omega)).mp c_67
        have hex : (((m_fi σ (σ 1 (264 + 28 * r + 0)) (σ 1 (264 + 28 * r + 1)) ((m_up_r σ (mln σ)) &&& ((σ 1 (264 + 28 * r + 9)) ^^^ ((-1) : Int32)))) 0 17).toNatClampNeg) = k := by omega
        subst hex
        refine pr_aload_n hA dX8_attempts_91 rfl ?_
        refine pr_iload_n hA dX8_attempts_92 rfl ?_
        refine pr_iconst hA (4) dX8_attempts_93 (by decide) ?_
        refine pr_iconst hA (0) dX8_attempts_94 (by decide) ?_
        refine pr_callVv hA [.int (nI r), .int (4 : Int32), .int (0 : Int32)] (c_m_putReq (m := m) (k := r) (c := 4) (σ := (m_at_it62 σ r (((m_fi σ (σ 1 (264 + 28 * r + 0)) (σ 1 (264 + 28 * r + 1)) ((m_up_r σ (mln σ)) &&& ((σ 1 (264 + 28 * r + 9)) ^^^ ((-1) : Int32)))) 0 17).toNatClampNeg))) (pr_hl hA) hm (by omega) (by omega)) v_X8_238 (mo_k0 hm) (by decide) rfl rfl rfl (by decide) (Nat.zero_le _) (Nat.zero_le _) rfl (Nat.le_of_ble_eq_true rfl) dX8_attempts_95 ?_
        refine pr_aload_n hA dX8_attempts_98 rfl ?_
        refine pr_iload_n hA dX8_attempts_99 rfl ?_
        refine pr_bipush hA (14) dX8_attempts_100 (by decide) ?_
        refine pr_iconst hA (0) dX8_attempts_102 (by decide) ?_
        refine pr_callVv hA [.int (nI r), .int (14 : Int32), .int (0 : Int32)] (c_m_putReq (m := m) (k := r) (c := 14) (σ := (pr_up (m_at_it62 σ r (((m_fi σ (σ 1 (264 + 28 * r + 0)) (σ 1 (264 + 28 * r + 1)) ((m_up_r σ (mln σ)) &&& ((σ 1 (264 + 28 * r + 9)) ^^^ ((-1) : Int32)))) 0 17).toNatClampNeg)) 1 (264 + 28 * r + 4) (0 : Int32))) (pr_hl hA) hm (by omega) (by omega)) v_X8_238 (mo_k0 hm) (by decide) rfl rfl rfl (by decide) (Nat.zero_le _) (Nat.zero_le _) rfl (Nat.le_of_ble_eq_true rfl) dX8_attempts_103 ?_
        refine pr_aload_n hA dX8_attempts_106 rfl ?_
        refine pr_iload_n hA dX8_attempts_107 rfl ?_
        refine pr_bipush hA (6) dX8_attempts_108 (by decide) ?_
        refine pr_aload_n hA dX8_attempts_110 rfl ?_
        refine pr_getR hA f_X8_9 rfl (mo_k0 hm) (mo_f0_0 hm) dX8_attempts_111 ?_
        refine pr_iconst hA (nI 0) dX8_attempts_114 (by decide) ?_
        refine pr_ialdM (v := (σ 1 0)) hA (mo_k1 hm) (by omega) (by omega) ((rg_val (by decide)).trans ((pr_upk (by omega)).trans ((pr_upk (by omega)).trans ((fw_m_at_it62 (by decide) (by decide)).trans ((pr_upk (by omega)).trans (congrFun (fr_m_fi (by decide)) _)))))) dX8_attempts_115 ?_
        refine pr_callVv hA [.int (nI r), .int (6 : Int32), .int (σ 1 0)] (c_m_putReq (m := m) (k := r) (c := 6) (σ := (pr_up (pr_up (m_at_it62 σ r (((m_fi σ (σ 1 (264 + 28 * r + 0)) (σ 1 (264 + 28 * r + 1)) ((m_up_r σ (mln σ)) &&& ((σ 1 (264 + 28 * r + 9)) ^^^ ((-1) : Int32)))) 0 17).toNatClampNeg)) 1 (264 + 28 * r + 4) (0 : Int32)) 1 (264 + 28 * r + 14) (0 : Int32))) (pr_hl hA) hm (by omega) (by omega)) v_X8_238 (mo_k0 hm) (by decide) rfl rfl rfl (by decide) (Nat.zero_le _) (Nat.zero_le _) rfl (Nat.le_of_ble_eq_true rfl) dX8_attempts_116 ?_
        exact pr_return hA rfl (Nat.zero_le _) (Nat.zero_le _) dX8_attempts_119 ⟨rfl, rfl, (by simp only [m_at, if_neg c_30]), rfl⟩
      · have n_67 : ¬ ((m_fi σ (σ 1 (264 + 28 * r + 0)) (σ 1 (264 + 28 * r + 1)) ((m_up_r σ (mln σ)) &&& ((σ 1 (264 + 28 * r + 9)) ^^^ ((-1) : Int32)))) 0 17).toNatClampNeg ≤ k := fun q => c_67 ((nI_leI (by omega) (by omega)).mpr q)
        refine pr_aload_n hA dX8_attempts_70 rfl ?_
        refine pr_iload_n hA dX8_attempts_71 rfl ?_
        refine pr_bipush hA (15) dX8_attempts_72 (by decide) ?_
        refine pr_iload_n hA dX8_attempts_74 rfl ?_
        refine pr_iadd hA dX8_attempts_75 ?_
        rw [show ((15 : Int32) + (nI k)) = (nI (15 + k)) from (nI_add 15 k)]
        refine pr_aload_n hA dX8_attempts_76 rfl ?_
        refine pr_getR hA f_X8_38 rfl (mo_k0 hm) (mo_f0_16 hm) dX8_attempts_77 ?_
        refine pr_iload_n hA dX8_attempts_80 rfl ?_
        refine pr_ialdM (v := ((m_fi σ (σ 1 (264 + 28 * r + 0)) (σ 1 (264 + 28 * r + 1)) ((m_up_r σ (mln σ)) &&& ((σ 1 (264 + 28 * r + 9)) ^^^ ((-1) : Int32)))) 10 k)) hA (mo_k10 hm) (by omega) (by omega) ((rg_val (by decide)).trans ((congrFun (fr_m_at_it62 (by decide)) _).trans (pr_upv (by decide)))) dX8_attempts_81 ?_
        refine pr_callVv hA [.int (nI r), .int (nI (15 + k)), .int ((m_fi σ (σ 1 (264 + 28 * r + 0)) (σ 1 (264 + 28 * r + 1)) ((m_up_r σ (mln σ)) &&& ((σ 1 (264 + 28 * r + 9)) ^^^ ((-1) : Int32)))) 10 k)] (c_m_putReq (m := m) (k := r) (c := (15 + k)) (σ := (m_at_it62 σ r k)) (pr_hl hA) hm (by omega) (by omega)) v_X8_238 (mo_k0 hm) (by decide) rfl rfl rfl (by decide) (Nat.zero_le _) (Nat.zero_le _) rfl (Nat.le_of_ble_eq_true rfl) dX8_attempts_82 ?_
        refine pr_iinc (ls' := [_, _, _]) hA (nI (k + 1)) dX8_attempts_85 (by decide) rfl (nI_inc _) rfl ?_
        refine pr_goto hA 62 dX8_attempts_88 (by decide) ?_
        have hb := ih62 ((((m_fi σ (σ 1 (264 + 28 * r + 0)) (σ 1 (264 + 28 * r + 1)) ((m_up_r σ (mln σ)) &&& ((σ 1 (264 + 28 * r + 9)) ^^^ ((-1) : Int32)))) 0 17).toNatClampNeg) - (k + 1)) (by omega) (k + 1) rfl (by omega)
        simp only [m_at_it62] at hb
        exact hb
    exact (lp62 ((((m_fi σ (σ 1 (264 + 28 * r + 0)) (σ 1 (264 + 28 * r + 1)) ((m_up_r σ (mln σ)) &&& ((σ 1 (264 + 28 * r + 9)) ^^^ ((-1) : Int32)))) 0 17).toNatClampNeg) - 0) 0 rfl (by omega))
  · refine pr_aload_n hA dX8_attempts_33 rfl ?_
    refine pr_iload_n hA dX8_attempts_34 rfl ?_
    refine pr_iconst hA (4) dX8_attempts_35 (by decide) ?_
    refine pr_iconst hA (4) dX8_attempts_36 (by decide) ?_
    refine pr_callVv hA [.int (nI r), .int (4 : Int32), .int (4 : Int32)] (c_m_putReq (m := m) (k := r) (c := 4) (σ := (m_fi σ (σ 1 (264 + 28 * r + 0)) (σ 1 (264 + 28 * r + 1)) ((m_up_r σ (mln σ)) &&& ((σ 1 (264 + 28 * r + 9)) ^^^ ((-1) : Int32))))) (pr_hl hA) hm (by omega) (by omega)) v_X8_238 (mo_k0 hm) (by decide) rfl rfl rfl (by decide) (Nat.zero_le _) (Nat.zero_le _) rfl (Nat.le_of_ble_eq_true rfl) dX8_attempts_37 ?_
    refine pr_aload_n hA dX8_attempts_40 rfl ?_
    refine pr_iload_n hA dX8_attempts_41 rfl ?_
    refine pr_bipush hA (6) dX8_attempts_42 (by decide) ?_
    refine pr_iconst hA ((-1)) dX8_attempts_44 (by decide) ?_
    refine pr_callVv hA [.int (nI r), .int (6 : Int32), .int ((-1) : Int32)] (c_m_putReq (m := m) (k := r) (c := 6) (σ := (pr_up (m_fi σ (σ 1 (264 + 28 * r + 0)) (σ 1 (264 + 28 * r + 1)) ((m_up_r σ (mln σ)) &&& ((σ 1 (264 + 28 * r + 9)) ^^^ ((-1) : Int32)))) 1 (264 + 28 * r + 4) (4 : Int32))) (pr_hl hA) hm (by omega) (by omega)) v_X8_238 (mo_k0 hm) (by decide) rfl rfl rfl (by decide) (Nat.zero_le _) (Nat.zero_le _) rfl (Nat.le_of_ble_eq_true rfl) dX8_attempts_45 ?_
    exact pr_return hA rfl (Nat.zero_le _) (Nat.zero_le _) dX8_attempts_48 ⟨rfl, rfl, (by simp only [m_at, if_pos c_30]), rfl⟩

theorem fr_m_at {σ : pr_I} {r : Nat} {o : Nat} (hms : ∀ m ∈ ([0, 1, 8, 9, 10] : List Nat), o ≠ m) : m_at σ r o = σ o := by
  unfold m_at
  simp only [List.mem_cons, List.not_mem_nil, or_false, forall_eq_or_imp, forall_eq] at hms
  by_cases c_30 : (m_fi_r σ (σ 1 (264 + 28 * r + 0)) (σ 1 (264 + 28 * r + 1)) ((m_up_r σ (mln σ)) &&& ((σ 1 (264 + 28 * r + 9)) ^^^ ((-1) : Int32)))) = 0
  · refine (congrFun (if_pos c_30) o).trans ?_
    rw [pr_up_ne (by omega), pr_up_ne (by omega), fr_m_fi (by simp only [List.mem_cons, List.not_mem_nil, or_false, forall_eq_or_imp, forall_eq]; omega)]
  · refine (congrFun (if_neg c_30) o).trans ?_
    rw [pr_up_ne (by omega), pr_up_ne (by omega), pr_up_ne (by omega), fr_m_at_it62 (by simp only [List.mem_cons, List.not_mem_nil, or_false, forall_eq_or_imp, forall_eq]; omega), pr_up_ne (by omega), fr_m_fi (by simp only [List.mem_cons, List.not_mem_nil, or_false, forall_eq_or_imp, forall_eq]; omega)]

theorem fw_m_at {σ : pr_I} {r : Nat} {j0 : Nat} (hj : j0 < 12) (hmw : ∀ m ∈ ([] : List Nat), j0 ≠ m) : m_at σ r 1 j0 = σ 1 j0 := by
  unfold m_at
  by_cases c_30 : (m_fi_r σ (σ 1 (264 + 28 * r + 0)) (σ 1 (264 + 28 * r + 1)) ((m_up_r σ (mln σ)) &&& ((σ 1 (264 + 28 * r + 9)) ^^^ ((-1) : Int32)))) = 0
  · rw [if_pos c_30]
    exact ((pr_upk (by omega)).trans ((pr_upk (by omega)).trans (congrFun (fr_m_fi (by decide)) _)))
  · rw [if_neg c_30]
    exact ((pr_upk (by omega)).trans ((pr_upk (by omega)).trans ((pr_upk (by omega)).trans ((fw_m_at_it62 hj (fun m hm => by cases hm)).trans ((pr_upk (by omega)).trans (congrFun (fr_m_fi (by decide)) _))))))
