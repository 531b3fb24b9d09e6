def m_fi_ok (σ : pr_I) (s t u : Int32) : Prop := m_lp_it51_e σ t u (sl 13) = true ∧ (¬ (m_lp σ t u) 8 s.toNatClampNeg = (1000000000 : Int32) → m_fi_it27_e σ s t u (sl 12) = true) ∧ (¬ (m_lp σ t u) 8 s.toNatClampNeg = (1000000000 : Int32) → ∀ k, ¬ (m_fi_it27 σ s t u k).2 = t → m_fi_it36_e σ (m_fi_it27 σ s t u k).1 s t u k ((m_fi_it27 σ s t u k).2) (sl 23) = true) ∧ vp_in ((m_fi σ s t u) 0 17) 12
noncomputable def m_df (σ : pr_I) (b : Nat) : Nat → Int32
  | 0 => 0
  | k + 1 => m_df σ b k + σ 1 (96 + 7 * (σ 10 (b + k)).toNatClampNeg + 4)
def mfn (σ : pr_I) : Nat := (σ 0 17).toNatClampNeg
theorem mI_fn {σ : pr_I} (h : mI σ) : σ 0 17 = nI (mfn σ) := vp_nI (h 0 17 13 rfl) (by decide)
theorem mI_fn12 {σ : pr_I} (h : mI σ) : mfn σ ≤ 12 := Nat.le_of_lt_succ (vp_in_lt (h 0 17 13 rfl))
set_option maxRecDepth 100000 in
set_option maxHeartbeats 400000 in
theorem c_m_df {g : pr_C} {l : Launch} (hl : l.stackTraces = false) {T : pr_T} {I : pr_I} {L : pr_L} {m : Nat} {σ : pr_I} {ml b : Nat} (hm : pr_Mo T m) (hI : mI σ) (hml : σ 0 17 = nI ml) (hml12 : ml ≤ 12) (hbl : b ≤ ml) : pr_M g l 4 0 0 mX8_delaysFrom [.ref m, .int (nI b)] T (rg_put I m 16 σ) L (pr_R (some (.int (m_df σ b (ml - b)))) T (rg_put I m 16 σ) L) pr_no := by
  refine pr_ofG (by decide) rfl hl (Nat.le_of_ble_eq_true rfl) (fun X hA hX hXn hXt => ?_)
  subst hX
  show pr_G g X mX8_delaysFrom.2.2.1 _ 0 0 0 [.ref m, .int (nI b), .null, .null] [] T (rg_put I m 16 σ) L
  refine pr_iconst hA (0) dX8_delaysFrom_0 (by decide) ?_
  refine pr_istore_n (ls' := [_, _, _, _]) hA dX8_delaysFrom_1 (by decide) rfl ?_
  refine pr_iload_n hA dX8_delaysFrom_2 rfl ?_
  refine pr_istore_n (ls' := [_, _, _, _]) hA dX8_delaysFrom_3 (by decide) rfl ?_
  have lp4 : ∀ (j k : Nat), ml - k = j → b ≤ k → k ≤ ml → pr_G g X mX8_delaysFrom.2.2.1 (pr_MQ g X (pr_R (some (.int (m_df σ b (ml - b)))) T (rg_put I m 16 σ) L) pr_no 0 0) 0 0 4 [.ref m, .int (nI b), .int (m_df σ b (k - b)), .int (nI k)] [] T (rg_put I m 16 σ) L := by
    intro j
    induction j using Nat.strongRecOn with | ind j ih =>
    intro k hj hbk hkn
    refine pr_iload_n hA dX8_delaysFrom_4 rfl ?_
    refine pr_aload_n hA dX8_delaysFrom_5 rfl ?_
    refine pr_getE (v := (nI ml)) hA f_X8_223 rfl (mo_k0 hm) ((rg_val0 (by decide)).trans hml) dX8_delaysFrom_6 ?_
    refine pr_icmp_ge hA 32 dX8_delaysFrom_9 (by decide) (fun c_9 => ?_) (fun c_9 => ?_)
    · have n_9 : ml ≤ k := (nI_leI (by omega) (by omega)).mp c_9
      have hex : k = ml := by omega
      subst hex
      refine pr_iload_n hA dX8_delaysFrom_32 rfl ?_
      exact pr_ireturn hA rfl rfl (Nat.zero_le _) (Nat.zero_le _) dX8_delaysFrom_33 ⟨rfl, rfl, rfl, rfl⟩
    · have n_9 : ¬ ml ≤ k := fun q => c_9 ((nI_leI (by omega) (by omega)).mpr q)
      refine pr_iload_n hA dX8_delaysFrom_12 rfl ?_
      refine pr_aload_n hA dX8_delaysFrom_13 rfl ?_
      refine pr_aload_n hA dX8_delaysFrom_14 rfl ?_
      refine pr_getR hA f_X8_38 rfl (mo_k0 hm) (mo_f0_16 hm) dX8_delaysFrom_15 ?_
      refine pr_iload_n hA dX8_delaysFrom_18 rfl ?_
      refine pr_ialdM (v := (σ 10 k)) hA (mo_k10 hm) (by omega) (by omega) (rg_val (by decide)) dX8_delaysFrom_19 ?_
      refine pr_iconst hA (4) dX8_delaysFrom_20 (by decide) ?_
      refine pr_callVi hA [.int (σ 10 k), .int (4 : Int32)] (c_m_linkx (m := m) (x := (σ 10 k)) (c := 4) (σ := σ) (pr_hl hA) hm (hI 10 k 24 rfl) (by omega)) v_X8_204 (mo_k0 hm) (by decide) rfl rfl rfl (by decide) (Nat.zero_le _) (Nat.zero_le _) rfl (Nat.le_of_ble_eq_true rfl) dX8_delaysFrom_21 ?_
      refine pr_iadd hA dX8_delaysFrom_24 ?_
      refine pr_istore_n (ls' := [_, _, _, _]) hA dX8_delaysFrom_25 (by decide) rfl ?_
      refine pr_iinc (ls' := [_, _, _, _]) hA (nI (k + 1)) dX8_delaysFrom_26 (by decide) rfl (nI_inc _) rfl ?_
      refine pr_goto hA 4 dX8_delaysFrom_29 (by decide) ?_
      have hb := ih (ml - (k + 1)) (by omega) (k + 1) rfl (by omega) (by omega)
      rw [show k + 1 - b = (k - b) + 1 from by omega] at hb
      simp only [m_df, show b + (k - b) = k from by omega] at hb
      exact hb
  exact (by have h0 := lp4 (ml - b) b rfl (Nat.le_refl _) hbl; rw [Nat.sub_self] at h0; exact h0)

noncomputable def mf_cheapest_r (σ : pr_I) (s : Nat) (t : Nat) (u : Int32) : Int32 := (if (m_fi_r (pr_up σ 0 6 (0 : Int32)) (nI s) (nI t) (m_lw_r (pr_up σ 0 6 (0 : Int32)) (mtn σ) (mln σ) u)) = 0 then ((-1) : Int32) else ((m_fi (pr_up σ 0 6 (0 : Int32)) (nI s) (nI t) (m_lw_r (pr_up σ 0 6 (0 : Int32)) (mtn σ) (mln σ) u)) 8 s))
noncomputable def mf_cheapest (σ : pr_I) (s : Nat) (t : Nat) (u : Int32) : pr_I := (m_fi (pr_up σ 0 6 (0 : Int32)) (nI s) (nI t) (m_lw_r (pr_up σ 0 6 (0 : Int32)) (mtn σ) (mln σ) u))
set_option maxRecDepth 100000 in
set_option maxHeartbeats 400000 in
theorem c_mf_cheapest {g : pr_C} {l : Launch} (hl : l.stackTraces = false) {T : pr_T} {I : pr_I} {L : pr_L} {m : Nat} {σ : pr_I} {s : Nat} {t : Nat} {u : Int32} (hm : pr_Mo T m) (hI : mI σ) (hs : s < mnn σ) (ht : t < mnn σ) (hst : s ≠ t) (hu1 : 0 ≤ u) (hu2 : u ≤ 1000) (hok : m_fi_ok (pr_up σ 0 6 (0 : Int32)) (nI s) (nI t) (m_lw_r (pr_up σ 0 6 (0 : Int32)) (mtn σ) (mln σ) u)) : pr_M g l 11 0 0 mX8_cheapest [.ref m, .int (nI s), .int (nI t), .int u] T (rg_put I m 16 σ) L (pr_R (some (.int (mf_cheapest_r σ s t u))) T (rg_put I m 16 (mf_cheapest σ s t u)) L) pr_no := by
  refine pr_ofG (by decide) rfl hl (Nat.le_of_ble_eq_true rfl) (fun X hA hX hXn hXt => ?_)
  subst hX
  show pr_G g X mX8_cheapest.2.2.1 _ 0 0 0 [.ref m, .int (nI s), .int (nI t), .int u] [] T (rg_put I m 16 σ) L
  have hn5 := mI_n5 hI
  have hr4 := mI_nr4 hI
  have hl24 := mI_nl24 hI
  have hn12 := mI_nn12 hI
  have hs0 : vp_in (nI s) 12 := nI_vin (by omega) (by decide)
  have ht0 : vp_in (nI t) 12 := nI_vin (by omega) (by decide)
  have hn0 : vp_in ((m_fi (pr_up σ 0 6 (0 : Int32)) (nI s) (nI t) (m_lw_r (pr_up σ 0 6 (0 : Int32)) (mtn σ) (mln σ) u)) 0 17) 13 := vp_in_mono hok.2.2.2 (by decide)
  have hn1 := vp_in_lt hok.2.2.2
  refine pr_aload_n hA dX8_cheapest_0 rfl ?_
  refine pr_iload_n hA dX8_cheapest_1 rfl ?_
  refine pr_iload_n hA dX8_cheapest_2 rfl ?_
  refine pr_iload_n hA dX8_cheapest_3 rfl ?_
  have hv4 : mI σ := hI
  refine pr_callVi hA [.int (nI s), .int (nI t), .int u] (c_ne_ok (m := m) (σ := σ) (pr_hl hA) hm hv4 (by omega) (by omega) (by omega) hu1 hu2) v_X8_362 (mo_k0 hm) (by decide) rfl rfl rfl (by decide) (Nat.zero_le _) (Nat.zero_le _) rfl (Nat.le_of_ble_eq_true rfl) dX8_cheapest_4 ?_
  refine pr_if_eq hA 12 dX8_cheapest_7 (by decide) (fun c_7 => ?_) (fun c_7 => ?_)
  · refine pr_aload_n hA dX8_cheapest_12 rfl ?_
    refine pr_iload_n hA dX8_cheapest_13 rfl ?_
    refine pr_iload_n hA dX8_cheapest_14 rfl ?_
    refine pr_aload_n hA dX8_cheapest_15 rfl ?_
    refine pr_iload_n hA dX8_cheapest_16 rfl ?_
    refine pr_callVi hA [.int u] (c_m_lw (m := m) (σ := (pr_up σ 0 6 (0 : Int32))) (n := (mtn σ)) (nl := (mln σ)) (u := u) (pr_hl hA) hm ((pr_upv (by decide)).trans (mI_n hI)) (mI_n5 hI) ((pr_upv (by decide)).trans (mI_nl hI)) (mI_nl24 hI)) v_X8_365 (mo_k0 hm) (by decide) rfl rfl rfl (by decide) (Nat.zero_le _) (Nat.zero_le _) rfl (Nat.le_of_ble_eq_true rfl) dX8_cheapest_17 ?_
    have hv20 : mI (pr_up σ 0 6 (0 : Int32)) := (mI.upn hI rfl)
    refine pr_callVi hA [.int (nI s), .int (nI t), .int (m_lw_r (pr_up σ 0 6 (0 : Int32)) (mtn σ) (mln σ) u)] (c_m_fi (m := m) (σ := (pr_up σ 0 6 (0 : Int32))) (s := (nI s)) (t := (nI t)) (u := (m_lw_r (pr_up σ 0 6 (0 : Int32)) (mtn σ) (mln σ) u)) (pr_hl hA) hm hv20 hs0 ht0 hok.1 hok.2.1 hok.2.2.1) v_X8_235 (mo_k0 hm) (by decide) rfl rfl rfl (by decide) (Nat.zero_le _) (Nat.zero_le _) rfl (Nat.le_of_ble_eq_true rfl) dX8_cheapest_20 ?_
    refine pr_join (c := (m_fi_r (pr_up σ 0 6 (0 : Int32)) (nI s) (nI t) (m_lw_r (pr_up σ 0 6 (0 : Int32)) (mtn σ) (mln σ) u)) = 0) (J := 36) (st := []) ((-1) : Int32) ((m_fi (pr_up σ 0 6 (0 : Int32)) (nI s) (nI t) (m_lw_r (pr_up σ 0 6 (0 : Int32)) (mtn σ) (mln σ) u)) 8 s) inferInstance (fun kt kf => ?_) ?_
    · refine pr_if_eq hA 35 dX8_cheapest_23 (by decide) (fun c_23 => ?_) (fun c_23 => ?_)
      · refine pr_iconst hA ((-1)) dX8_cheapest_35 (by decide) ?_
        exact kt c_23
      · refine pr_aload_n hA dX8_cheapest_26 rfl ?_
        refine pr_getR hA f_X8_32 rfl (mo_k0 hm) (mo_f0_14 hm) dX8_cheapest_27 ?_
        refine pr_iload_n hA dX8_cheapest_30 rfl ?_
        refine pr_ialdM (v := ((m_fi (pr_up σ 0 6 (0 : Int32)) (nI s) (nI t) (m_lw_r (pr_up σ 0 6 (0 : Int32)) (mtn σ) (mln σ) u)) 8 s)) hA (mo_k8 hm) (by omega) (by omega) (rg_val (by decide)) dX8_cheapest_31 ?_
        refine pr_goto hA 36 dX8_cheapest_32 (by decide) ?_
        exact kf c_23
    · exact pr_ireturn hA rfl rfl (Nat.zero_le _) (Nat.zero_le _) dX8_cheapest_36 ⟨rfl, rfl, rfl, rfl⟩
  · exact (c_7 (by decide)).elim

theorem fr_mf_cheapest {σ : pr_I} {s : Nat} {t : Nat} {u : Int32} {o : Nat} (hms : ∀ m ∈ ([0, 8, 9, 10] : List Nat), o ≠ m) : mf_cheapest σ s t u o = σ o := by
  unfold mf_cheapest
  simp only [List.mem_cons, List.not_mem_nil, or_false, forall_eq_or_imp, forall_eq] at hms
  rw [fr_m_fi (by simp only [List.mem_cons, List.not_mem_nil, or_false, forall_eq_or_imp, forall_eq]; omega), pr_up_ne (by omega)]

noncomputable def mf_roundTrip_r (σ : pr_I) (s : Nat) (t : Nat) (u : Int32) : Int32 := (if (m_fi_r (pr_up σ 0 6 (0 : Int32)) (nI s) (nI t) (m_lw_r (pr_up σ 0 6 (0 : Int32)) (mtn σ) (mln σ) u)) = 0 then ((-1) : Int32) else ((2 : Int32) * (m_df (m_fi (pr_up σ 0 6 (0 : Int32)) (nI s) (nI t) (m_lw_r (pr_up σ 0 6 (0 : Int32)) (mtn σ) (mln σ) u)) 0 (mfn (m_fi (pr_up σ 0 6 (0 : Int32)) (nI s) (nI t) (m_lw_r (pr_up σ 0 6 (0 : Int32)) (mtn σ) (mln σ) u)) - 0))))
noncomputable def mf_roundTrip (σ : pr_I) (s : Nat) (t : Nat) (u : Int32) : pr_I := (m_fi (pr_up σ 0 6 (0 : Int32)) (nI s) (nI t) (m_lw_r (pr_up σ 0 6 (0 : Int32)) (mtn σ) (mln σ) u))
set_option maxRecDepth 100000 in
set_option maxHeartbeats 400000 in
theorem c_mf_roundTrip {g : pr_C} {l : Launch} (hl : l.stackTraces = false) {T : pr_T} {I : pr_I} {L : pr_L} {m : Nat} {σ : pr_I} {s : Nat} {t : Nat} {u : Int32} (hm : pr_Mo T m) (hI : mI σ) (hs : s < mnn σ) (ht : t < mnn σ) (hst : s ≠ t) (hu1 : 0 ≤ u) (hu2 : u ≤ 1000) (hok : m_fi_ok (pr_up σ 0 6 (0 : Int32)) (nI s) (nI t) (m_lw_r (pr_up σ 0 6 (0 : Int32)) (mtn σ) (mln σ) u)) : pr_M g l 11 0 0 mX8_roundTrip [.ref m, .int (nI s), .int (nI t), .int u] T (rg_put I m 16 σ) L (pr_R (some (.int (mf_roundTrip_r σ s t u))) T (rg_put I m 16 (mf_roundTrip σ s t u)) L) pr_no := by
  refine pr_ofG (by decide) rfl hl (Nat.le_of_ble_eq_true rfl) (fun X hA hX hXn hXt => ?_)
  subst hX
  show pr_G g X mX8_roundTrip.2.2.1 _ 0 0 0 [.ref m, .int (nI s), .int (nI t), .int u] [] T (rg_put I m 16 σ) L
  have hn5 := mI_n5 hI
  have hr4 := mI_nr4 hI
  have hl24 := mI_nl24 hI
  have hn12 := mI_nn12 hI
  have hs0 : vp_in (nI s) 12 := nI_vin (by omega) (by decide)
  have ht0 : vp_in (nI t) 12 := nI_vin (by omega) (by decide)
  have hn0 : vp_in ((m_fi (pr_up σ 0 6 (0 : Int32)) (nI s) (nI t) (m_lw_r (pr_up σ 0 6 (0 : Int32)) (mtn σ) (mln σ) u)) 0 17) 13 := vp_in_mono hok.2.2.2 (by decide)
  have hn1 := vp_in_lt hok.2.2.2
  refine pr_aload_n hA dX8_roundTrip_0 rfl ?_
  refine pr_iload_n hA dX8_roundTrip_1 rfl ?_
  refine pr_iload_n hA dX8_roundTrip_2 rfl ?_
  refine pr_iload_n hA dX8_roundTrip_3 rfl ?_
  have hv4 : mI σ := hI
  refine pr_callVi hA [.int (nI s), .int (nI t), .int u] (c_ne_ok (m := m) (σ := σ) (pr_hl hA) hm hv4 (by omega) (by omega) (by omega) hu1 hu2) v_X8_362 (mo_k0 hm) (by decide) rfl rfl rfl (by decide) (Nat.zero_le _) (Nat.zero_le _) rfl (Nat.le_of_ble_eq_true rfl) dX8_roundTrip_4 ?_
  refine pr_if_eq hA 12 dX8_roundTrip_7 (by decide) (fun c_7 => ?_) (fun c_7 => ?_)
  · refine pr_aload_n hA dX8_roundTrip_12 rfl ?_
    refine pr_iload_n hA dX8_roundTrip_13 rfl ?_
    refine pr_iload_n hA dX8_roundTrip_14 rfl ?_
    refine pr_aload_n hA dX8_roundTrip_15 rfl ?_
    refine pr_iload_n hA dX8_roundTrip_16 rfl ?_
    refine pr_callVi hA [.int u] (c_m_lw (m := m) (σ := (pr_up σ 0 6 (0 : Int32))) (n := (mtn σ)) (nl := (mln σ)) (u := u) (pr_hl hA) hm ((pr_upv (by decide)).trans (mI_n hI)) (mI_n5 hI) ((pr_upv (by decide)).trans (mI_nl hI)) (mI_nl24 hI)) v_X8_365 (mo_k0 hm) (by decide) rfl rfl rfl (by decide) (Nat.zero_le _) (Nat.zero_le _) rfl (Nat.le_of_ble_eq_true rfl) dX8_roundTrip_17 ?_
    have hv20 : mI (pr_up σ 0 6 (0 : Int32)) := (mI.upn hI rfl)
    refine pr_callVi hA [.int (nI s), .int (nI t), .int (m_lw_r (pr_up σ 0 6 (0 : Int32)) (mtn σ) (mln σ) u)] (c_m_fi (m := m) (σ := (pr_up σ 0 6 (0 : Int32))) (s := (nI s)) (t := (nI t)) (u := (m_lw_r (pr_up σ 0 6 (0 : Int32)) (mtn σ) (mln σ) u)) (pr_hl hA) hm hv20 hs0 ht0 hok.1 hok.2.1 hok.2.2.1) v_X8_235 (mo_k0 hm) (by decide) rfl rfl rfl (by decide) (Nat.zero_le _) (Nat.zero_le _) rfl (Nat.le_of_ble_eq_true rfl) dX8_roundTrip_20 ?_
    refine pr_join (c := (m_fi_r (pr_up σ 0 6 (0 : Int32)) (nI s) (nI t) (m_lw_r (pr_up σ 0 6 (0 : Int32)) (mtn σ) (mln σ) u)) = 0) (J := 37) (st := []) ((-1) : Int32) ((2 : Int32) * (m_df (m_fi (pr_up σ 0 6 (0 : Int32)) (nI s) (nI t) (m_lw_r (pr_up σ 0 6 (0 : Int32)) (mtn σ) (mln σ) u)) 0 (mfn (m_fi (pr_up σ 0 6 (0 : Int32)) (nI s) (nI t) (m_lw_r (pr_up σ 0 6 (0 : Int32)) (mtn σ) (mln σ) u)) - 0))) inferInstance (fun kt kf => ?_) ?_
    · refine pr_if_eq hA 36 dX8_roundTrip_23 (by decide) (fun c_23 => ?_) (fun c_23 => ?_)
      · refine pr_iconst hA ((-1)) dX8_roundTrip_36 (by decide) ?_
        exact kt c_23
      · refine pr_iconst hA (2) dX8_roundTrip_26 (by decide) ?_
        refine pr_aload_n hA dX8_roundTrip_27 rfl ?_
        refine pr_iconst hA (nI 0) dX8_roundTrip_28 (by decide) ?_
        refine pr_callVi hA [.int (nI 0)] (c_m_df (m := m) (σ := (m_fi (pr_up σ 0 6 (0 : Int32)) (nI s) (nI t) (m_lw_r (pr_up σ 0 6 (0 : Int32)) (mtn σ) (mln σ) u))) (ml := mfn (m_fi (pr_up σ 0 6 (0 : Int32)) (nI s) (nI t) (m_lw_r (pr_up σ 0 6 (0 : Int32)) (mtn σ) (mln σ) u))) (b := 0) (pr_hl hA) hm (mI_m_fi (mI.upn hI rfl) hs0) (mI_fn (mI_m_fi (mI.upn hI rfl) hs0)) (mI_fn12 (mI_m_fi (mI.upn hI rfl) hs0)) (Nat.zero_le _)) v_X8_368 (mo_k0 hm) (by decide) rfl rfl rfl (by decide) (Nat.zero_le _) (Nat.zero_le _) rfl (Nat.le_of_ble_eq_true rfl) dX8_roundTrip_29 ?_
        refine pr_imul hA dX8_roundTrip_32 ?_
        refine pr_goto hA 37 dX8_roundTrip_33 (by decide) ?_
        exact kf c_23
    · exact pr_ireturn hA rfl rfl (Nat.zero_le _) (Nat.zero_le _) dX8_roundTrip_37 ⟨rfl, rfl, rfl, rfl⟩
  · exact (c_7 (by decide)).elim

theorem fr_mf_roundTrip {σ : pr_I} {s : Nat} {t : Nat} {u : Int32} {o : Nat} (hms : ∀ m ∈ ([0, 8, 9, 10] : List Nat), o ≠ m) : mf_roundTrip σ s t u o = σ o := by
  unfold mf_roundTrip
  simp only [List.mem_cons, List.not_mem_nil, or_false, forall_eq_or_imp, forall_eq] at hms
  rw [fr_m_fi (by simp only [List.mem_cons, List.not_mem_nil, or_false, forall_eq_or_imp, forall_eq]; omega), pr_up_ne (by omega)]

noncomputable def mf_cheapestLink_r (σ : pr_I) (s : Nat) (t : Nat) (u : Int32) (i : Int32) : Int32 := (if (m_fi_r (pr_up σ 0 6 (0 : Int32)) (nI s) (nI t) (m_lw_r (pr_up σ 0 6 (0 : Int32)) (mtn σ) (mln σ) u)) = 0 then ((-1) : Int32) else (if (m_in_r (m_fi (pr_up σ 0 6 (0 : Int32)) (nI s) (nI t) (m_lw_r (pr_up σ 0 6 (0 : Int32)) (mtn σ) (mln σ) u)) ((i).toInt64) (0 : Int64) (((((m_fi (pr_up σ 0 6 (0 : Int32)) (nI s) (nI t) (m_lw_r (pr_up σ 0 6 (0 : Int32)) (mtn σ) (mln σ) u)) 0 17) - (1 : Int32))).toInt64)) = 0 then ((-1) : Int32) else ((m_fi (pr_up σ 0 6 (0 : Int32)) (nI s) (nI t) (m_lw_r (pr_up σ 0 6 (0 : Int32)) (mtn σ) (mln σ) u)) 10 i.toNatClampNeg)))
noncomputable def mf_cheapestLink (σ : pr_I) (s : Nat) (t : Nat) (u : Int32) (i : Int32) : pr_I := (if (m_fi_r (pr_up σ 0 6 (0 : Int32)) (nI s) (nI t) (m_lw_r (pr_up σ 0 6 (0 : Int32)) (mtn σ) (mln σ) u)) = 0 then (m_fi (pr_up σ 0 6 (0 : Int32)) (nI s) (nI t) (m_lw_r (pr_up σ 0 6 (0 : Int32)) (mtn σ) (mln σ) u)) else (if (m_in_r (m_fi (pr_up σ 0 6 (0 : Int32)) (nI s) (nI t) (m_lw_r (pr_up σ 0 6 (0 : Int32)) (mtn σ) (mln σ) u)) ((i).toInt64) (0 : Int64) (((((m_fi (pr_up σ 0 6 (0 : Int32)) (nI s) (nI t) (m_lw_r (pr_up σ 0 6 (0 : Int32)) (mtn σ) (mln σ) u)) 0 17) - (1 : Int32))).toInt64)) = 0 then (m_fi (pr_up σ 0 6 (0 : Int32)) (nI s) (nI t) (m_lw_r (pr_up σ 0 6 (0 : Int32)) (mtn σ) (mln σ) u)) else (m_fi (pr_up σ 0 6 (0 : Int32)) (nI s) (nI t) (m_lw_r (pr_up σ 0 6 (0 : Int32)) (mtn σ) (mln σ) u))))
set_option maxRecDepth 100000 in
set_option maxHeartbeats 400000 in
theorem c_mf_cheapestLink {g : pr_C} {l : Launch} (hl : l.stackTraces = false) {T : pr_T} {I : pr_I} {L : pr_L} {m : Nat} {σ : pr_I} {s : Nat} {t : Nat} {u : Int32} {i : Int32} (hm : pr_Mo T m) (hI : mI σ) (hs : s < mnn σ) (ht : t < mnn σ) (hst : s ≠ t) (hu1 : 0 ≤ u) (hu2 : u ≤ 1000) (hok : m_fi_ok (pr_up σ 0 6 (0 : Int32)) (nI s) (nI t) (m_lw_r (pr_up σ 0 6 (0 : Int32)) (mtn σ) (mln σ) u)) : pr_M g l 11 0 0 mX8_cheapestLink [.ref m, .int (nI s), .int (nI t), .int u, .int i] T (rg_put I m 16 σ) L (pr_R (some (.int (mf_cheapestLink_r σ s t u i))) T (rg_put I m 16 (mf_cheapestLink σ s t u i)) L) pr_no := by
  refine pr_ofG (by decide) rfl hl (Nat.le_of_ble_eq_true rfl) (fun X hA hX hXn hXt => ?_)
  subst hX
  show pr_G g X mX8_cheapestLink.2.2.1 _ 0 0 0 [.ref m, .int (nI s), .int (nI t), .int u, .int i] [] T (rg_put I m 16 σ) L
  have hn5 := mI_n5 hI
  have hr4 := mI_nr4 hI
  have hl24 := mI_nl24 hI
  have hn12 := mI_nn12 hI
  have hs0 : vp_in (nI s) 12 := nI_vin (by omega) (by decide)
  have ht0 : vp_in (nI t) 12 := nI_vin (by omega) (by decide)
  have hn0 : vp_in ((m_fi (pr_up σ 0 6 (0 : Int32)) (nI s) (nI t) (m_lw_r (pr_up σ 0 6 (0 : Int32)) (mtn σ) (mln σ) u)) 0 17) 13 := vp_in_mono hok.2.2.2 (by decide)
  have hn1 := vp_in_lt hok.2.2.2
  refine pr_aload_n hA dX8_cheapestLink_0 rfl ?_
  refine pr_iload_n hA dX8_cheapestLink_1 rfl ?_
  refine pr_iload_n hA dX8_cheapestLink_2 rfl ?_
  refine pr_iload_n hA dX8_cheapestLink_3 rfl ?_
  have hv4 : mI σ := hI
  refine pr_callVi hA [.int (nI s), .int (nI t), .int u] (c_ne_ok (m := m) (σ := σ) (pr_hl hA) hm hv4 (by omega) (by omega) (by omega) hu1 hu2) v_X8_362 (mo_k0 hm) (by decide) rfl rfl rfl (by decide) (Nat.zero_le _) (Nat.zero_le _) rfl (Nat.le_of_ble_eq_true rfl) dX8_cheapestLink_4 ?_
  refine pr_if_eq hA 12 dX8_cheapestLink_7 (by decide) (fun c_7 => ?_) (fun c_7 => ?_)
  · refine pr_aload_n hA dX8_cheapestLink_12 rfl ?_
    refine pr_iload_n hA dX8_cheapestLink_13 rfl ?_
    refine pr_iload_n hA dX8_cheapestLink_14 rfl ?_
    refine pr_aload_n hA dX8_cheapestLink_15 rfl ?_
    refine pr_iload_n hA dX8_cheapestLink_16 rfl ?_
    refine pr_callVi hA [.int u] (c_m_lw (m := m) (σ := (pr_up σ 0 6 (0 : Int32))) (n := (mtn σ)) (nl := (mln σ)) (u := u) (pr_hl hA) hm ((pr_upv (by decide)).trans (mI_n hI)) (mI_n5 hI) ((pr_upv (by decide)).trans (mI_nl hI)) (mI_nl24 hI)) v_X8_365 (mo_k0 hm) (by decide) rfl rfl rfl (by decide) (Nat.zero_le _) (Nat.zero_le _) rfl (Nat.le_of_ble_eq_true rfl) dX8_cheapestLink_17 ?_
    have hv20 : mI (pr_up σ 0 6 (0 : Int32)) := (mI.upn hI rfl)
    refine pr_callVi hA [.int (nI s), .int (nI t), .int (m_lw_r (pr_up σ 0 6 (0 : Int32)) (mtn σ) (mln σ) u)] (c_m_fi (m := m) (σ := (pr_up σ 0 6 (0 : Int32))) (s := (nI s)) (t := (nI t)) (u := (m_lw_r (pr_up σ 0 6 (0 : Int32)) (mtn σ) (mln σ) u)) (pr_hl hA) hm hv20 hs0 ht0 hok.1 hok.2.1 hok.2.2.1) v_X8_235 (mo_k0 hm) (by decide) rfl rfl rfl (by decide) (Nat.zero_le _) (Nat.zero_le _) rfl (Nat.le_of_ble_eq_true rfl) dX8_cheapestLink_20 ?_
    refine pr_if_eq hA 53 dX8_cheapestLink_23 (by decide) (fun c_23 => ?_) (fun c_23 => ?_)
    · refine pr_iconst hA ((-1)) dX8_cheapestLink_53 (by decide) ?_
      exact pr_ireturn hA rfl rfl (Nat.zero_le _) (Nat.zero_le _) dX8_cheapestLink_54 ⟨(by simp only [mf_cheapestLink_r, if_pos c_23]), rfl, (by simp only [mf_cheapestLink, if_pos c_23]), rfl⟩
    · refine pr_iload hA dX8_cheapestLink_26 rfl ?_
      refine pr_i2l hA dX8_cheapestLink_28 ?_
      refine pr_lconst hA 0 dX8_cheapestLink_29 (by decide) ?_
      refine pr_aload_n hA dX8_cheapestLink_30 rfl ?_
      refine pr_getE (v := ((m_fi (pr_up σ 0 6 (0 : Int32)) (nI s) (nI t) (m_lw_r (pr_up σ 0 6 (0 : Int32)) (mtn σ) (mln σ) u)) 0 17)) hA f_X8_223 rfl (mo_k0 hm) (rg_val0 (by decide)) dX8_cheapestLink_31 ?_
      refine pr_iconst hA (1) dX8_cheapestLink_34 (by decide) ?_
      refine pr_isub hA dX8_cheapestLink_35 ?_
      refine pr_i2l hA dX8_cheapestLink_36 ?_
      refine pr_callSi hA [.long ((i).toInt64), .long (0 : Int64), .long (((((m_fi (pr_up σ 0 6 (0 : Int32)) (nI s) (nI t) (m_lw_r (pr_up σ 0 6 (0 : Int32)) (mtn σ) (mln σ) u)) 0 17) - (1 : Int32))).toInt64)] (c_m_in (m := m) (σ := (m_fi (pr_up σ 0 6 (0 : Int32)) (nI s) (nI t) (m_lw_r (pr_up σ 0 6 (0 : Int32)) (mtn σ) (mln σ) u))) (a := (i).toInt64) (b := (0 : Int64)) (c := ((((m_fi (pr_up σ 0 6 (0 : Int32)) (nI s) (nI t) (m_lw_r (pr_up σ 0 6 (0 : Int32)) (mtn σ) (mln σ) u)) 0 17) - (1 : Int32))).toInt64) (pr_hl hA) hm) s_X8_80 rfl (by decide) (Nat.zero_le _) (Nat.zero_le _) rfl (Nat.le_of_ble_eq_true rfl) dX8_cheapestLink_37 ?_
      refine pr_if_eq hA 53 dX8_cheapestLink_40 (by decide) (fun c_40 => ?_) (fun c_40 => ?_)
      · refine pr_iconst hA ((-1)) dX8_cheapestLink_53 (by decide) ?_
        exact pr_ireturn hA rfl rfl (Nat.zero_le _) (Nat.zero_le _) dX8_cheapestLink_54 ⟨(by simp only [mf_cheapestLink_r, if_neg c_23, if_pos c_40]), rfl, (by simp only [mf_cheapestLink, if_neg c_23, if_pos c_40]), rfl⟩
      · have hi11 : vp_in i 11 := pl_in2 (by decide) hok.2.2.2 c_40
        refine pr_aload_n hA dX8_cheapestLink_43 rfl ?_
        refine pr_getR hA f_X8_38 rfl (mo_k0 hm) (mo_f0_16 hm) dX8_cheapestLink_44 ?_
        refine pr_iload hA dX8_cheapestLink_47 rfl ?_
        refine pr_ialdE (v := ((m_fi (pr_up σ 0 6 (0 : Int32)) (nI s) (nI t) (m_lw_r (pr_up σ 0 6 (0 : Int32)) (mtn σ) (mln σ) u)) 10 i.toNatClampNeg)) hA (mo_k10 hm) (vp_in_mono hi11 (by decide)) (rg_val (by decide)) dX8_cheapestLink_49 ?_
        refine pr_goto hA 54 dX8_cheapestLink_50 (by decide) ?_
        exact pr_ireturn hA rfl rfl (Nat.zero_le _) (Nat.zero_le _) dX8_cheapestLink_54 ⟨(by simp only [mf_cheapestLink_r, if_neg c_23, if_neg c_40]), rfl, (by simp only [mf_cheapestLink, if_neg c_23, if_neg c_40]), rfl⟩
  · exact (c_7 (by decide)).elim

theorem fr_mf_cheapestLink {σ : pr_I} {s : Nat} {t : Nat} {u : Int32} {i : Int32} {o : Nat} (hms : ∀ m ∈ ([0, 8, 9, 10] : List Nat), o ≠ m) : mf_cheapestLink σ s t u i o = σ o := by
  unfold mf_cheapestLink
  simp only [List.mem_cons, List.not_mem_nil, or_false, forall_eq_or_imp, forall_eq] at hms
  by_cases c_23 : (m_fi_r (pr_up σ 0 6 (0 : Int32)) (nI s) (nI t) (m_lw_r (pr_up σ 0 6 (0 : Int32)) (mtn σ) (mln σ) u)) = 0
  · refine (congrFun (if_pos c_23) o).trans ?_
    rw [fr_m_fi (by simp only [List.mem_cons, List.not_mem_nil, or_false, forall_eq_or_imp, forall_eq]; omega), pr_up_ne (by omega)]
  · refine (congrFun (if_neg c_23) o).trans ?_
    by_cases c_40 : (m_in_r (m_fi (pr_up σ 0 6 (0 : Int32)) (nI s) (nI t) (m_lw_r (pr_up σ 0 6 (0 : Int32)) (mtn σ) (mln σ) u)) ((i).toInt64) (0 : Int64) (((((m_fi (pr_up σ 0 6 (0 : Int32)) (nI s) (nI t) (m_lw_r (pr_up σ 0 6 (0 : Int32)) (mtn σ) (mln σ) u)) 0 17) - (1 : Int32))).toInt64)) = 0
    · refine (congrFun (if_pos c_40) o).trans ?_
      rw [fr_m_fi (by simp only [List.mem_cons, List.not_mem_nil, or_false, forall_eq_or_imp, forall_eq]; omega), pr_up_ne (by omega)]
    · refine (congrFun (if_neg c_40) o).trans ?_
      rw [fr_m_fi (by simp only [List.mem_cons, List.not_mem_nil, or_false, forall_eq_or_imp, forall_eq]; omega), pr_up_ne (by omega)]

noncomputable def mf_neededHold_it34 (σ : pr_I) (s : Nat) (t : Nat) (u : Int32) : Nat → Int32
  | 0 => (0 : Int32)
  | k + 1 => (if (mf_neededHold_it34 σ s t u k) < (((2 : Int32) * (m_df (m_fi (pr_up σ 0 6 (0 : Int32)) (nI s) (nI t) (m_lw_r (pr_up σ 0 6 (0 : Int32)) (mtn σ) (mln σ) u)) (k + 1) (mfn (m_fi (pr_up σ 0 6 (0 : Int32)) (nI s) (nI t) (m_lw_r (pr_up σ 0 6 (0 : Int32)) (mtn σ) (mln σ) u)) - (k + 1)))) + (σ 1 (96 + 7 * (((m_fi (pr_up σ 0 6 (0 : Int32)) (nI s) (nI t) (m_lw_r (pr_up σ 0 6 (0 : Int32)) (mtn σ) (mln σ) u)) 10 k).toNatClampNeg) + 4))) then (((2 : Int32) * (m_df (m_fi (pr_up σ 0 6 (0 : Int32)) (nI s) (nI t) (m_lw_r (pr_up σ 0 6 (0 : Int32)) (mtn σ) (mln σ) u)) (k + 1) (mfn (m_fi (pr_up σ 0 6 (0 : Int32)) (nI s) (nI t) (m_lw_r (pr_up σ 0 6 (0 : Int32)) (mtn σ) (mln σ) u)) - (k + 1)))) + (σ 1 (96 + 7 * (((m_fi (pr_up σ 0 6 (0 : Int32)) (nI s) (nI t) (m_lw_r (pr_up σ 0 6 (0 : Int32)) (mtn σ) (mln σ) u)) 10 k).toNatClampNeg) + 4))) else (mf_neededHold_it34 σ s t u k))
noncomputable def mf_neededHold_r (σ : pr_I) (s : Nat) (t : Nat) (u : Int32) : Int32 := (if (m_fi_r (pr_up σ 0 6 (0 : Int32)) (nI s) (nI t) (m_lw_r (pr_up σ 0 6 (0 : Int32)) (mtn σ) (mln σ) u)) = 0 then ((-1) : Int32) else ((mf_neededHold_it34 σ s t u (((m_fi (pr_up σ 0 6 (0 : Int32)) (nI s) (nI t) (m_lw_r (pr_up σ 0 6 (0 : Int32)) (mtn σ) (mln σ) u)) 0 17).toNatClampNeg)) + (1 : Int32)))
noncomputable def mf_neededHold (σ : pr_I) (s : Nat) (t : Nat) (u : Int32) : pr_I := (if (m_fi_r (pr_up σ 0 6 (0 : Int32)) (nI s) (nI t) (m_lw_r (pr_up σ 0 6 (0 : Int32)) (mtn σ) (mln σ) u)) = 0 then (m_fi (pr_up σ 0 6 (0 : Int32)) (nI s) (nI t) (m_lw_r (pr_up σ 0 6 (0 : Int32)) (mtn σ) (mln σ) u)) else (m_fi (pr_up σ 0 6 (0 : Int32)) (nI s) (nI t) (m_lw_r (pr_up σ 0 6 (0 : Int32)) (mtn σ) (mln σ) u)))
set_option maxRecDepth 100000 in
set_option maxHeartbeats 400000 in
theorem c_mf_neededHold {g : pr_C} {l : Launch} (hl : l.stackTraces = false) {T : pr_T} {I : pr_I} {L : pr_L} {m : Nat} {σ : pr_I} {s : Nat} {t : Nat} {u : Int32} (hm : pr_Mo T m) (hI : mI σ) (hs : s < mnn σ) (ht : t < mnn σ) (hst : s ≠ t) (hu1 : 0 ≤ u) (hu2 : u ≤ 1000) (hok : m_fi_ok (pr_up σ 0 6 (0 : Int32)) (nI s) (nI t) (m_lw_r (pr_up σ 0 6 (0 : Int32)) (mtn σ) (mln σ) u)) : pr_M g l 11 0 0 mX8_neededHold [.ref m, .int (nI s), .int (nI t), .int u] T (rg_put I m 16 σ) L (pr_R (some (.int (mf_neededHold_r σ s t u))) T (rg_put I m 16 (mf_neededHold σ s t u)) L) pr_no := by
  refine pr_ofG (by decide) rfl hl (Nat.le_of_ble_eq_true rfl) (fun X hA hX hXn hXt => ?_)
  subst hX
  show pr_G g X mX8_neededHold.2.2.1 _ 0 0 0 [.ref m, .int (nI s), .int (nI t), .int u, .null, .null] [] T (rg_put I m 16 σ) L
  have hn5 := mI_n5 hI
  have hr4 := mI_nr4 hI
  have hl24 := mI_nl24 hI
  have hn12 := mI_nn12 hI
  have hs0 : vp_in (nI s) 12 := nI_vin (by omega) (by decide)
  have ht0 : vp_in (nI t) 12 := nI_vin (by omega) (by decide)
  have hn0 : vp_in ((m_fi (pr_up σ 0 6 (0 : Int32)) (nI s) (nI t) (m_lw_r (pr_up σ 0 6 (0 : Int32)) (mtn σ) (mln σ) u)) 0 17) 13 := vp_in_mono hok.2.2.2 (by decide)
  have hn1 := vp_in_lt hok.2.2.2
  refine pr_aload_n hA dX8_neededHold_0 rfl ?_
  refine pr_iload_n hA dX8_neededHold_1 rfl ?_
  refine pr_iload_n hA dX8_neededHold_2 rfl ?_
  refine pr_iload_n hA dX8_neededHold_3 rfl ?_
  have hv4 : mI σ := hI
  refine pr_callVi hA [.int (nI s), .int (nI t), .int u] (c_ne_ok (m := m) (σ := σ) (pr_hl hA) hm hv4 (by omega) (by omega) (by omega) hu1 hu2) v_X8_362 (mo_k0 hm) (by decide) rfl rfl rfl (by decide) (Nat.zero_le _) (Nat.zero_le _) rfl (Nat.le_of_ble_eq_true rfl) dX8_neededHold_4 ?_
  refine pr_if_eq hA 12 dX8_neededHold_7 (by decide) (fun c_7 => ?_) (fun c_7 => ?_)
  · refine pr_aload_n hA dX8_neededHold_12 rfl ?_
    refine pr_iload_n hA dX8_neededHold_13 rfl ?_
    refine pr_iload_n hA dX8_neededHold_14 rfl ?_
    refine pr_aload_n hA dX8_neededHold_15 rfl ?_
    refine pr_iload_n hA dX8_neededHold_16 rfl ?_
    refine pr_callVi hA [.int u] (c_m_lw (m := m) (σ := (pr_up σ 0 6 (0 : Int32))) (n := (mtn σ)) (nl := (mln σ)) (u := u) (pr_hl hA) hm ((pr_upv (by decide)).trans (mI_n hI)) (mI_n5 hI) ((pr_upv (by decide)).trans (mI_nl hI)) (mI_nl24 hI)) v_X8_365 (mo_k0 hm) (by decide) rfl rfl rfl (by decide) (Nat.zero_le _) (Nat.zero_le _) rfl (Nat.le_of_ble_eq_true rfl) dX8_neededHold_17 ?_
    have hv20 : mI (pr_up σ 0 6 (0 : Int32)) := (mI.upn hI rfl)
    refine pr_callVi hA [.int (nI s), .int (nI t), .int (m_lw_r (pr_up σ 0 6 (0 : Int32)) (mtn σ) (mln σ) u)] (c_m_fi (m := m) (σ := (pr_up σ 0 6 (0 : Int32))) (s := (nI s)) (t := (nI t)) (u := (m_lw_r (pr_up σ 0 6 (0 : Int32)) (mtn σ) (mln σ) u)) (pr_hl hA) hm hv20 hs0 ht0 hok.1 hok.2.1 hok.2.2.1) v_X8_235 (mo_k0 hm) (by decide) rfl rfl rfl (by decide) (Nat.zero_le _) (Nat.zero_le _) rfl (Nat.le_of_ble_eq_true rfl) dX8_neededHold_20 ?_
    refine pr_if_ne hA 28 dX8_neededHold_23 (by decide) (fun c_23 => ?_) (fun c_23 => ?_)
    · refine pr_iconst hA (0) dX8_neededHold_28 (by decide) ?_
      refine pr_istore (ls' := [_, _, _, _, _, _]) hA dX8_neededHold_29 (by decide) rfl ?_
      refine pr_iconst hA (nI 0) dX8_neededHold_31 (by decide) ?_
      refine pr_istore (ls' := [_, _, _, _, _, _]) hA dX8_neededHold_32 (by decide) rfl ?_
      have lp34 : ∀ (j k : Nat), (((m_fi (pr_up σ 0 6 (0 : Int32)) (nI s) (nI t) (m_lw_r (pr_up σ 0 6 (0 : Int32)) (mtn σ) (mln σ) u)) 0 17).toNatClampNeg) - k = j → k ≤ (((m_fi (pr_up σ 0 6 (0 : Int32)) (nI s) (nI t) (m_lw_r (pr_up σ 0 6 (0 : Int32)) (mtn σ) (mln σ) u)) 0 17).toNatClampNeg) → pr_G g X mX8_neededHold.2.2.1 (pr_MQ g X (pr_R (some (.int (mf_neededHold_r σ s t u))) T (rg_put I m 16 (mf_neededHold σ s t u)) L) pr_no 0 0) 0 0 34 [.ref m, .int (nI s), .int (nI t), .int u, .int (mf_neededHold_it34 σ s t u k), .int (nI k)] [] T (rg_put I m 16 (m_fi (pr_up σ 0 6 (0 : Int32)) (nI s) (nI t) (m_lw_r (pr_up σ 0 6 (0 : Int32)) (mtn σ) (mln σ) u))) L := by
        intro j
        induction j using Nat.strongRecOn with | ind j ih34 =>
        intro k hj34 hk34
        refine pr_iload hA dX8_neededHold_34 rfl ?_
        refine pr_aload_n hA dX8_neededHold_36 rfl ?_
        refine pr_getE (v := ((m_fi (pr_up σ 0 6 (0 : Int32)) (nI s) (nI t) (m_lw_r (pr_up σ 0 6 (0 : Int32)) (mtn σ) (mln σ) u)) 0 17)) hA f_X8_223 rfl (mo_k0 hm) (rg_val0 (by decide)) dX8_neededHold_37 ?_
        rw [show ((m_fi (pr_up σ 0 6 (0 : Int32)) (nI s) (nI t) (m_lw_r (pr_up σ 0 6 (0 : Int32)) (mtn σ) (mln σ) u)) 0 17) = (nI (((m_fi (pr_up σ 0 6 (0 : Int32)) (nI s) (nI t) (m_lw_r (pr_up σ 0 6 (0 : Int32)) (mtn σ) (mln σ) u)) 0 17).toNatClampNeg)) from (vp_nI hn0 (by decide))]
        refine pr_icmp_ge hA 79 dX8_neededHold_40 (by decide) (fun c_40 => ?_) (fun c_40 => ?_)
        · have n_40 : ((m_fi (pr_up σ 0 6 (0 : Int32)) (nI s) (nI t) (m_lw_r (pr_up σ 0 6 (0 : Int32)) (mtn σ) (mln σ) u)) 0 17).toNatClampNeg ≤ k := (nI_leI (by omega) (by omega)).mp c_40
          have hex : (((m_fi (pr_up σ 0 6 (0 : Int32)) (nI s) (nI t) (m_lw_r (pr_up σ 0 6 (0 : Int32)) (mtn σ) (mln σ) u)) 0 17).toNatClampNeg) = k := by omega
          subst hex
          refine pr_iload hA dX8_neededHold_79 rfl ?_
          refine pr_iconst hA (1) dX8_neededHold_81 (by decide) ?_
          refine pr_iadd hA dX8_neededHold_82 ?_
          exact pr_ireturn hA rfl rfl (Nat.zero_le _) (Nat.zero_le _) dX8_neededHold_83 ⟨(by simp only [mf_neededHold_r, if_neg c_23]), rfl, (by simp only [mf_neededHold, if_neg c_23]), rfl⟩
        · have n_40 : ¬ ((m_fi (pr_up σ 0 6 (0 : Int32)) (nI s) (nI t) (m_lw_r (pr_up σ 0 6 (0 : Int32)) (mtn σ) (mln σ) u)) 0 17).toNatClampNeg ≤ k := fun q => c_40 ((nI_leI (by omega) (by omega)).mpr q)
          refine pr_iload hA dX8_neededHold_43 rfl ?_
          refine pr_iconst hA (2) dX8_neededHold_45 (by decide) ?_
          refine pr_aload_n hA dX8_neededHold_46 rfl ?_
          refine pr_iload hA dX8_neededHold_47 rfl ?_
          refine pr_iconst hA (nI 1) dX8_neededHold_49 (by decide) ?_
          refine pr_iaddE (v := nI (k + 1)) hA (nI_1 _) dX8_neededHold_50 ?_
          refine pr_callVi hA [.int (nI (k + 1))] (c_m_df (m := m) (σ := (m_fi (pr_up σ 0 6 (0 : Int32)) (nI s) (nI t) (m_lw_r (pr_up σ 0 6 (0 : Int32)) (mtn σ) (mln σ) u))) (ml := mfn (m_fi (pr_up σ 0 6 (0 : Int32)) (nI s) (nI t) (m_lw_r (pr_up σ 0 6 (0 : Int32)) (mtn σ) (mln σ) u))) (b := (k + 1)) (pr_hl hA) hm (mI_m_fi (mI.upn hI rfl) hs0) (mI_fn (mI_m_fi (mI.upn hI rfl) hs0)) (mI_fn12 (mI_m_fi (mI.upn hI rfl) hs0)) (by show k + 1 ≤ ((m_fi (pr_up σ 0 6 (0 : Int32)) (nI s) (nI t) (m_lw_r (pr_up σ 0 6 (0 : Int32)) (mtn σ) (mln σ) u)) 0 17).toNatClampNeg; omega)) v_X8_368 (mo_k0 hm) (by decide) rfl rfl rfl (by decide) (Nat.zero_le _) (Nat.zero_le _) rfl (Nat.le_of_ble_eq_true rfl) dX8_neededHold_51 ?_
          refine pr_imul hA dX8_neededHold_54 ?_
          refine pr_aload_n hA dX8_neededHold_55 rfl ?_
          refine pr_aload_n hA dX8_neededHold_56 rfl ?_
          refine pr_getR hA f_X8_38 rfl (mo_k0 hm) (mo_f0_16 hm) dX8_neededHold_57 ?_
          refine pr_iload hA dX8_neededHold_60 rfl ?_
          refine pr_ialdM (v := ((m_fi (pr_up σ 0 6 (0 : Int32)) (nI s) (nI t) (m_lw_r (pr_up σ 0 6 (0 : Int32)) (mtn σ) (mln σ) u)) 10 k)) hA (mo_k10 hm) (by omega) (by omega) (rg_val (by decide)) dX8_neededHold_62 ?_
          refine pr_iconst hA (4) dX8_neededHold_63 (by decide) ?_
          refine pr_callVi hA [.int ((m_fi (pr_up σ 0 6 (0 : Int32)) (nI s) (nI t) (m_lw_r (pr_up σ 0 6 (0 : Int32)) (mtn σ) (mln σ) u)) 10 k), .int (4 : Int32)] (c_m_linkx (m := m) (x := ((m_fi (pr_up σ 0 6 (0 : Int32)) (nI s) (nI t) (m_lw_r (pr_up σ 0 6 (0 : Int32)) (mtn σ) (mln σ) u)) 10 k)) (c := 4) (σ := (m_fi (pr_up σ 0 6 (0 : Int32)) (nI s) (nI t) (m_lw_r (pr_up σ 0 6 (0 : Int32)) (mtn σ) (mln σ) u))) (pr_hl hA) hm (mI_m_fi (mI.upn hI rfl) hs0 10 k 24 rfl) (by omega)) v_X8_204 (mo_k0 hm) (by decide) rfl rfl rfl (by decide) (Nat.zero_le _) (Nat.zero_le _) rfl (Nat.le_of_ble_eq_true rfl) dX8_neededHold_64 ?_
          rw [show ((m_fi (pr_up σ 0 6 (0 : Int32)) (nI s) (nI t) (m_lw_r (pr_up σ 0 6 (0 : Int32)) (mtn σ) (mln σ) u)) 1 (96 + 7 * (((m_fi (pr_up σ 0 6 (0 : Int32)) (nI s) (nI t) (m_lw_r (pr_up σ 0 6 (0 : Int32)) (mtn σ) (mln σ) u)) 10 k).toNatClampNeg) + 4)) = (σ 1 (96 + 7 * (((m_fi (pr_up σ 0 6 (0 : Int32)) (nI s) (nI t) (m_lw_r (pr_up σ 0 6 (0 : Int32)) (mtn σ) (mln σ) u)) 10 k).toNatClampNeg) + 4)) from ((congrFun (fr_m_fi (by decide)) _).trans (pr_upv (by decide)))]
          refine pr_iadd hA dX8_neededHold_67 ?_
          refine pr_mmax hA rfl ⟨kM_X8_290, kT_J9_max_7cf53, kZ_J9, kO_J9_max_7cf53⟩ (by decide) (Nat.zero_le _) (Nat.zero_le _) (Nat.le_of_ble_eq_true rfl) dX8_neededHold_68 ?_
          refine pr_istore (ls' := [_, _, _, _, _, _]) hA dX8_neededHold_71 (by decide) rfl ?_
          refine pr_iinc (ls' := [_, _, _, _, _, _]) hA (nI (k + 1)) dX8_neededHold_73 (by decide) rfl (nI_inc _) rfl ?_
          refine pr_goto hA 34 dX8_neededHold_76 (by decide) ?_
          have hb := ih34 ((((m_fi (pr_up σ 0 6 (0 : Int32)) (nI s) (nI t) (m_lw_r (pr_up σ 0 6 (0 : Int32)) (mtn σ) (mln σ) u)) 0 17).toNatClampNeg) - (k + 1)) (by omega) (k + 1) rfl (by omega)
          simp only [mf_neededHold_it34] at hb
          exact hb
      exact (lp34 ((((m_fi (pr_up σ 0 6 (0 : Int32)) (nI s) (nI t) (m_lw_r (pr_up σ 0 6 (0 : Int32)) (mtn σ) (mln σ) u)) 0 17).toNatClampNeg) - 0) 0 rfl (by omega))
    · refine pr_iconst hA ((-1)) dX8_neededHold_26 (by decide) ?_
      exact pr_ireturn hA rfl rfl (Nat.zero_le _) (Nat.zero_le _) dX8_neededHold_27 ⟨(by simp only [mf_neededHold_r, if_pos c_23]), rfl, (by simp only [mf_neededHold, if_pos c_23]), rfl⟩
  · exact (c_7 (by decide)).elim

theorem fr_mf_neededHold {σ : pr_I} {s : Nat} {t : Nat} {u : Int32} {o : Nat} (hms : ∀ m ∈ ([0, 8, 9, 10] : List Nat), o ≠ m) : mf_neededHold σ s t u o = σ o := by
  unfold mf_neededHold
  simp only [List.mem_cons, List.not_mem_nil, or_false, forall_eq_or_imp, forall_eq] at hms
  by_cases c_23 : (m_fi_r (pr_up σ 0 6 (0 : Int32)) (nI s) (nI t) (m_lw_r (pr_up σ 0 6 (0 : Int32)) (mtn σ) (mln σ) u)) = 0
  · refine (congrFun (if_pos c_23) o).trans ?_
    rw [fr_m_fi (by simp only [List.mem_cons, List.not_mem_nil, or_false, forall_eq_or_imp, forall_eq]; omega), pr_up_ne (by omega)]
  · refine (congrFun (if_neg c_23) o).trans ?_
    rw [fr_m_fi (by simp only [List.mem_cons, List.not_mem_nil, or_false, forall_eq_or_imp, forall_eq]; omega), pr_up_ne (by omega)]

noncomputable def mf_widest_it16 (σ : pr_I) (s : Nat) (t : Nat) : Nat → pr_I × Int32
  | 0 => ((pr_up σ 0 6 (0 : Int32)), (0 : Int32))
  | k + 1 => (if (m_av_r (mf_widest_it16 σ s t k).1 (mtn σ) k) ≤ ((mf_widest_it16 σ s t k).2) then ((mf_widest_it16 σ s t k).1, ((mf_widest_it16 σ s t k).2)) else (if (m_fi_r (mf_widest_it16 σ s t k).1 (nI s) (nI t) (m_lw_r (mf_widest_it16 σ s t k).1 (mtn σ) (mln σ) (m_av_r (mf_widest_it16 σ s t k).1 (mtn σ) k))) = 0 then ((m_fi (mf_widest_it16 σ s t k).1 (nI s) (nI t) (m_lw_r (mf_widest_it16 σ s t k).1 (mtn σ) (mln σ) (m_av_r (mf_widest_it16 σ s t k).1 (mtn σ) k))), ((mf_widest_it16 σ s t k).2)) else ((m_fi (mf_widest_it16 σ s t k).1 (nI s) (nI t) (m_lw_r (mf_widest_it16 σ s t k).1 (mtn σ) (mln σ) (m_av_r (mf_widest_it16 σ s t k).1 (mtn σ) k))), (m_av_r (mf_widest_it16 σ s t k).1 (mtn σ) k))))
theorem fr_mf_widest_it16 {σ : pr_I} {s : Nat} {t : Nat} {o : Nat} (hms : ∀ m ∈ ([0, 8, 9, 10] : List Nat), o ≠ m) : ∀ {k : Nat}, (mf_widest_it16 σ s t k).1 o = (pr_up σ 0 6 (0 : Int32)) o := by
  simp only [List.mem_cons, List.not_mem_nil, or_false, forall_eq_or_imp, forall_eq] at hms
  intro k
  induction k with
  | zero =>
    show (pr_up σ 0 6 (0 : Int32)) o = (pr_up σ 0 6 (0 : Int32)) o
    rfl
  | succ k ih =>
    by_cases c_39 : (m_av_r (mf_widest_it16 σ s t k).1 (mtn σ) k) ≤ ((mf_widest_it16 σ s t k).2)
    · refine (congrFun (congrArg (fun z : pr_I × Int32 => z.1) (if_pos c_39)) o).trans ?_
      show (mf_widest_it16 σ s t k).1 o = (pr_up σ 0 6 (0 : Int32)) o
      rw [ih]
    · refine (congrFun (congrArg (fun z : pr_I × Int32 => z.1) (if_neg c_39)) o).trans ?_
      by_cases c_54 : (m_fi_r (mf_widest_it16 σ s t k).1 (nI s) (nI t) (m_lw_r (mf_widest_it16 σ s t k).1 (mtn σ) (mln σ) (m_av_r (mf_widest_it16 σ s t k).1 (mtn σ) k))) = 0
      · refine (congrFun (congrArg (fun z : pr_I × Int32 => z.1) (if_pos c_54)) o).trans ?_
        show (m_fi (mf_widest_it16 σ s t k).1 (nI s) (nI t) (m_lw_r (mf_widest_it16 σ s t k).1 (mtn σ) (mln σ) (m_av_r (mf_widest_it16 σ s t k).1 (mtn σ) k))) o = (pr_up σ 0 6 (0 : Int32)) o
        rw [fr_m_fi (by simp only [List.mem_cons, List.not_mem_nil, or_false, forall_eq_or_imp, forall_eq]; omega), ih]
      · refine (congrFun (congrArg (fun z : pr_I × Int32 => z.1) (if_neg c_54)) o).trans ?_
        show (m_fi (mf_widest_it16 σ s t k).1 (nI s) (nI t) (m_lw_r (mf_widest_it16 σ s t k).1 (mtn σ) (mln σ) (m_av_r (mf_widest_it16 σ s t k).1 (mtn σ) k))) o = (pr_up σ 0 6 (0 : Int32)) o
        rw [fr_m_fi (by simp only [List.mem_cons, List.not_mem_nil, or_false, forall_eq_or_imp, forall_eq]; omega), ih]

noncomputable def mf_widest_r (σ : pr_I) (s : Nat) (t : Nat) : Int32 := ((mf_widest_it16 σ s t (mln σ)).2)
noncomputable def mf_widest (σ : pr_I) (s : Nat) (t : Nat) : pr_I := (mf_widest_it16 σ s t (mln σ)).1
theorem mI_mf_widest_it16 {σ : pr_I} {s t : Nat} (hI : mI σ) (hs0 : vp_in (nI s) 12) : ∀ i, mI (mf_widest_it16 σ s t i).1
  | 0 => mI.upn hI rfl
  | i + 1 => by
    have ih := mI_mf_widest_it16 (t := t) hI hs0 i
    unfold mf_widest_it16
    exact p_ite (P := fun z : pr_I × Int32 => mI z.1) ih (p_ite (P := fun z : pr_I × Int32 => mI z.1) (mI_m_fi ih hs0) (mI_m_fi ih hs0))
set_option maxRecDepth 100000 in
set_option maxHeartbeats 400000 in
theorem c_mf_widest {g : pr_C} {l : Launch} (hl : l.stackTraces = false) {T : pr_T} {I : pr_I} {L : pr_L} {m : Nat} {σ : pr_I} {s : Nat} {t : Nat} (hm : pr_Mo T m) (hI : mI σ) (hs : s < mnn σ) (ht : t < mnn σ) (hst : s ≠ t) (hok : ∀ i, i < mln σ → m_fi_ok (mf_widest_it16 σ s t i).1 (nI s) (nI t) (m_lw_r (mf_widest_it16 σ s t i).1 (mtn σ) (mln σ) (m_av_r (mf_widest_it16 σ s t i).1 (mtn σ) i))) : pr_M g l 11 0 0 mX8_widest [.ref m, .int (nI s), .int (nI t)] T (rg_put I m 16 σ) L (pr_R (some (.int (mf_widest_r σ s t))) T (rg_put I m 16 (mf_widest σ s t)) L) pr_no := by
  refine pr_ofG (by decide) rfl hl (Nat.le_of_ble_eq_true rfl) (fun X hA hX hXn hXt => ?_)
  subst hX
  show pr_G g X mX8_widest.2.2.1 _ 0 0 0 [.ref m, .int (nI s), .int (nI t), .null, .null, .null] [] T (rg_put I m 16 σ) L
  have hn5 := mI_n5 hI
  have hr4 := mI_nr4 hI
  have hl24 := mI_nl24 hI
  have hn12 := mI_nn12 hI
  have hs0 : vp_in (nI s) 12 := nI_vin (by omega) (by decide)
  have ht0 : vp_in (nI t) 12 := nI_vin (by omega) (by decide)
  refine pr_aload_n hA dX8_widest_0 rfl ?_
  refine pr_iload_n hA dX8_widest_1 rfl ?_
  refine pr_iload_n hA dX8_widest_2 rfl ?_
  have hv3 : mI σ := hI
  refine pr_callVi hA [.int (nI s), .int (nI t)] (c_nn_ok (m := m) (σ := σ) (pr_hl hA) hm hv3 (by omega) (by omega) (by omega)) v_X8_337 (mo_k0 hm) (by decide) rfl rfl rfl (by decide) (Nat.zero_le _) (Nat.zero_le _) rfl (Nat.le_of_ble_eq_true rfl) dX8_widest_3 ?_
  refine pr_if_eq hA 11 dX8_widest_6 (by decide) (fun c_6 => ?_) (fun c_6 => ?_)
  · refine pr_iconst hA (0) dX8_widest_11 (by decide) ?_
    refine pr_istore_n (ls' := [_, _, _, _, _, _]) hA dX8_widest_12 (by decide) rfl ?_
    refine pr_iconst hA (nI 0) dX8_widest_13 (by decide) ?_
    refine pr_istore (ls' := [_, _, _, _, _, _]) hA dX8_widest_14 (by decide) rfl ?_
    have lp16 : ∀ (j k : Nat), (mln σ) - k = j → k ≤ (mln σ) → pr_G g X mX8_widest.2.2.1 (pr_MQ g X (pr_R (some (.int (mf_widest_r σ s t))) T (rg_put I m 16 (mf_widest σ s t)) L) pr_no 0 0) 0 0 16 [.ref m, .int (nI s), .int (nI t), .int ((mf_widest_it16 σ s t k).2), .int (nI k), .null] [] T (rg_put I m 16 (mf_widest_it16 σ s t k).1) L := by
      intro j
      induction j using Nat.strongRecOn with | ind j ih16 =>
      intro k hj16 hk16
      refine pr_iload hA dX8_widest_16 rfl ?_
      refine pr_aload_n hA dX8_widest_18 rfl ?_
      refine pr_getR hA f_X8_9 rfl (mo_k0 hm) (mo_f0_0 hm) dX8_widest_19 ?_
      refine pr_bipush hA (nI 7) dX8_widest_22 (by decide) ?_
      refine pr_ialdM (v := (nI (mln σ))) hA (mo_k1 hm) (by omega) (by omega) ((rg_val (by decide)).trans ((congrFun (fr_mf_widest_it16 (by decide)) _).trans ((pr_upv (by decide)).trans (mI_nl hI)))) dX8_widest_24 ?_
      refine pr_icmp_ge hA 66 dX8_widest_25 (by decide) (fun c_25 => ?_) (fun c_25 => ?_)
      · have n_25 : (mln σ) ≤ k := (nI_leI (by omega) (by omega)).mp c_25
        have hex : (mln σ) = k := by omega
        subst hex
        refine pr_iload_n hA dX8_widest_66 rfl ?_
        exact pr_ireturn hA rfl rfl (Nat.zero_le _) (Nat.zero_le _) dX8_widest_67 ⟨rfl, rfl, rfl, rfl⟩
      · have n_25 : ¬ (mln σ) ≤ k := fun q => c_25 ((nI_leI (by omega) (by omega)).mpr q)
        refine pr_aload_n hA dX8_widest_28 rfl ?_
        refine pr_iload hA dX8_widest_29 rfl ?_
        refine pr_callVi hA [.int (nI k)] (c_m_av (m := m) (σ := (mf_widest_it16 σ s t k).1) (n := (mtn σ)) (lk := k) (pr_hl hA) hm ((congrFun (fr_mf_widest_it16 (by decide)) _).trans ((pr_upv (by decide)).trans (mI_n hI))) (mI_n5 hI) (by omega)) v_X8_209 (mo_k0 hm) (by decide) rfl rfl rfl (by decide) (Nat.zero_le _) (Nat.zero_le _) rfl (Nat.le_of_ble_eq_true rfl) dX8_widest_31 ?_
        refine pr_istore (ls' := [_, _, _, _, _, _]) hA dX8_widest_34 (by decide) rfl ?_
        refine pr_iload hA dX8_widest_36 rfl ?_
        refine pr_iload_n hA dX8_widest_38 rfl ?_
        refine pr_icmp_le hA 60 dX8_widest_39 (by decide) (fun c_39 => ?_) (fun c_39 => ?_)
        · refine pr_iinc (ls' := [_, _, _, _, _, _]) hA (nI (k + 1)) dX8_widest_60 (by decide) rfl (nI_inc _) rfl ?_
          refine pr_goto hA 16 dX8_widest_63 (by decide) ?_
          have hb := ih16 ((mln σ) - (k + 1)) (by omega) (k + 1) rfl (by omega)
          simp only [mf_widest_it16, if_pos c_39] at hb
          exact pr_lessL (ls' := [.ref m, .int (nI s), .int (nI t), .int ((mf_widest_it16 σ s t k).2), .int (nI (k + 1)), .null]) ⟨.inr rfl, .inr rfl, .inr rfl, .inr rfl, .inr rfl, .inl rfl, trivial⟩ hb
        · refine pr_aload_n hA dX8_widest_42 rfl ?_
          refine pr_iload_n hA dX8_widest_43 rfl ?_
          refine pr_iload_n hA dX8_widest_44 rfl ?_
          refine pr_aload_n hA dX8_widest_45 rfl ?_
          refine pr_iload hA dX8_widest_46 rfl ?_
          refine pr_callVi hA [.int (m_av_r (mf_widest_it16 σ s t k).1 (mtn σ) k)] (c_m_lw (m := m) (σ := (mf_widest_it16 σ s t k).1) (n := (mtn σ)) (nl := (mln σ)) (u := (m_av_r (mf_widest_it16 σ s t k).1 (mtn σ) k)) (pr_hl hA) hm ((congrFun (fr_mf_widest_it16 (by decide)) _).trans ((pr_upv (by decide)).trans (mI_n hI))) (mI_n5 hI) ((congrFun (fr_mf_widest_it16 (by decide)) _).trans ((pr_upv (by decide)).trans (mI_nl hI))) (mI_nl24 hI)) v_X8_365 (mo_k0 hm) (by decide) rfl rfl rfl (by decide) (Nat.zero_le _) (Nat.zero_le _) rfl (Nat.le_of_ble_eq_true rfl) dX8_widest_48 ?_
          have hv51 : mI (mf_widest_it16 σ s t k).1 := (mI_mf_widest_it16 hI hs0 k)
          refine pr_callVi hA [.int (nI s), .int (nI t), .int (m_lw_r (mf_widest_it16 σ s t k).1 (mtn σ) (mln σ) (m_av_r (mf_widest_it16 σ s t k).1 (mtn σ) k))] (c_m_fi (m := m) (σ := (mf_widest_it16 σ s t k).1) (s := (nI s)) (t := (nI t)) (u := (m_lw_r (mf_widest_it16 σ s t k).1 (mtn σ) (mln σ) (m_av_r (mf_widest_it16 σ s t k).1 (mtn σ) k))) (pr_hl hA) hm hv51 hs0 ht0 (hok k (by omega)).1 (hok k (by omega)).2.1 (hok k (by omega)).2.2.1) v_X8_235 (mo_k0 hm) (by decide) rfl rfl rfl (by decide) (Nat.zero_le _) (Nat.zero_le _) rfl (Nat.le_of_ble_eq_true rfl) dX8_widest_51 ?_
          refine pr_if_eq hA 60 dX8_widest_54 (by decide) (fun c_54 => ?_) (fun c_54 => ?_)
          · refine pr_iinc (ls' := [_, _, _, _, _, _]) hA (nI (k + 1)) dX8_widest_60 (by decide) rfl (nI_inc _) rfl ?_
            refine pr_goto hA 16 dX8_widest_63 (by decide) ?_
            have hb := ih16 ((mln σ) - (k + 1)) (by omega) (k + 1) rfl (by omega)
            simp only [mf_widest_it16, if_neg c_39, if_pos c_54] at hb
            exact pr_lessL (ls' := [.ref m, .int (nI s), .int (nI t), .int ((mf_widest_it16 σ s t k).2), .int (nI (k + 1)), .null]) ⟨.inr rfl, .inr rfl, .inr rfl, .inr rfl, .inr rfl, .inl rfl, trivial⟩ hb
          · refine pr_iload hA dX8_widest_57 rfl ?_
            refine pr_istore_n (ls' := [_, _, _, _, _, _]) hA dX8_widest_59 (by decide) rfl ?_
            refine pr_iinc (ls' := [_, _, _, _, _, _]) hA (nI (k + 1)) dX8_widest_60 (by decide) rfl (nI_inc _) rfl ?_
            refine pr_goto hA 16 dX8_widest_63 (by decide) ?_
            have hb := ih16 ((mln σ) - (k + 1)) (by omega) (k + 1) rfl (by omega)
            simp only [mf_widest_it16, if_neg c_39, if_neg c_54] at hb
            exact pr_lessL (ls' := [.ref m, .int (nI s), .int (nI t), .int (m_av_r (mf_widest_it16 σ s t k).1 (mtn σ) k), .int (nI (k + 1)), .null]) ⟨.inr rfl, .inr rfl, .inr rfl, .inr rfl, .inr rfl, .inl rfl, trivial⟩ hb
    exact (lp16 ((mln σ) - 0) 0 rfl (by omega))
  · exact (c_6 (by decide)).elim

theorem fr_mf_widest {σ : pr_I} {s : Nat} {t : Nat} {o : Nat} (hms : ∀ m ∈ ([0, 8, 9, 10] : List Nat), o ≠ m) : mf_widest σ s t o = σ o := by
  unfold mf_widest
  simp only [List.mem_cons, List.not_mem_nil, or_false, forall_eq_or_imp, forall_eq] at hms
  rw [fr_mf_widest_it16 (by simp only [List.mem_cons, List.not_mem_nil, or_false, forall_eq_or_imp, forall_eq]; omega), pr_up_ne (by omega)]

noncomputable def mf_reachable_it82 (σ σ1 : pr_I) (s : Nat) (u : Int32) (k : Nat) (x4 : Int32) : Nat → Int32
  | 0 => x4
  | k1 + 1 => ((mf_reachable_it82 σ σ1 s u k x4 k1) ||| (if (m_has_r σ1 (m_lw_r (pr_up σ 0 6 (0 : Int32)) (mtn σ) (mln σ) u) (nI k1)) = 0 then (0 : Int32) else (if (m_has_r σ1 (mf_reachable_it82 σ σ1 s u k x4 k1) (σ 1 (96 + 7 * k1 + 0))) = 0 then (0 : Int32) else ((1 : Int32) <<< ((σ 1 (96 + 7 * k1 + 1)) &&& 31)))))
noncomputable def mf_reachable_it67 (σ : pr_I) (s : Nat) (u : Int32) : Nat → Int32
  | 0 => ((1 : Int32) <<< ((nI s) &&& 31))
  | k + 1 => (mf_reachable_it82 σ (pr_up σ 0 6 (0 : Int32)) s u k (mf_reachable_it67 σ s u k) (mln σ))
noncomputable def mf_reachable_r (σ : pr_I) (s : Nat) (u : Int32) : Int32 := (mf_reachable_it67 σ s u (mnn σ))
noncomputable def mf_reachable (σ : pr_I) (s : Nat) (u : Int32) : pr_I := (pr_up σ 0 6 (0 : Int32))
set_option maxRecDepth 100000 in
set_option maxHeartbeats 400000 in
theorem c_mf_reachable {g : pr_C} {l : Launch} (hl : l.stackTraces = false) {T : pr_T} {I : pr_I} {L : pr_L} {m : Nat} {σ : pr_I} {s : Nat} {u : Int32} (hm : pr_Mo T m) (hI : mI σ) (hs : s < mnn σ) (hu1 : 0 ≤ u) (hu2 : u ≤ 1000) : pr_M g l 11 0 0 mX8_reachable [.ref m, .int (nI s), .int u] T (rg_put I m 16 σ) L (pr_R (some (.int (mf_reachable_r σ s u))) T (rg_put I m 16 (mf_reachable σ s u)) L) pr_no := by
  refine pr_ofG (by decide) rfl hl (Nat.le_of_ble_eq_true rfl) (fun X hA hX hXn hXt => ?_)
  subst hX
  show pr_G g X mX8_reachable.2.2.1 _ 0 0 0 [.ref m, .int (nI s), .int u, .null, .null, .null, .null] [] T (rg_put I m 16 σ) L
  have hn5 := mI_n5 hI
  have hr4 := mI_nr4 hI
  have hl24 := mI_nl24 hI
  have hn12 := mI_nn12 hI
  refine pr_aload_n hA dX8_reachable_0 rfl ?_
  refine pr_iconst hA (0) dX8_reachable_1 (by decide) ?_
  refine pr_putE (I' := (rg_put I m 16 (pr_up σ 0 6 (0 : Int32)))) hA f_X8_60 rfl (mo_k0 hm) (rg_up0 (by decide)) dX8_reachable_2 ?_
  refine pr_aload_n hA dX8_reachable_5 rfl ?_
  refine pr_aload_n hA dX8_reachable_6 rfl ?_
  refine pr_iload_n hA dX8_reachable_7 rfl ?_
  have hv8 : mI (pr_up σ 0 6 (0 : Int32)) := (mI.upn hI rfl)
  have hq8 : mnn (pr_up σ 0 6 (0 : Int32)) = mnn σ := rfl
  refine pr_callVi hA [.int (nI s)] (c_nd_ok (m := m) (σ := (pr_up σ 0 6 (0 : Int32))) (pr_hl hA) hm hv8 (by omega)) v_X8_312 (mo_k0 hm) (by decide) rfl rfl rfl (by decide) (Nat.zero_le _) (Nat.zero_le _) rfl (Nat.le_of_ble_eq_true rfl) dX8_reachable_8 ?_
  refine pr_if_ne hA 18 dX8_reachable_11 (by decide) (fun c_11 => ?_) (fun c_11 => ?_)
  · refine pr_iconst hA (0) dX8_reachable_18 (by decide) ?_
    refine pr_iconst hA (1) dX8_reachable_19 (by decide) ?_
    refine pr_callVi hA [.int (0 : Int32), .int (1 : Int32)] (c_tiE (m := m) (σ := (pr_up σ 0 6 (0 : Int32))) (pr_hl hA) hm (ti_0 pr_upe)) v_X8_301 (mo_k0 hm) (by decide) rfl rfl rfl (by decide) (Nat.zero_le _) (Nat.zero_le _) rfl (Nat.le_of_ble_eq_true rfl) dX8_reachable_20 ?_
    refine pr_if_ne hA 51 dX8_reachable_23 (by decide) (fun c_23 => ?_) (fun c_23 => ?_)
    · exact (c_23 (by decide)).elim
    · refine pr_aload_n hA dX8_reachable_26 rfl ?_
      refine pr_iload_n hA dX8_reachable_27 rfl ?_
      refine pr_i2l hA dX8_reachable_28 ?_
      refine pr_lconst hA 0 dX8_reachable_29 (by decide) ?_
      refine pr_ldc2 hA kK_X8_299 dX8_reachable_30 ?_
      refine pr_callSi hA [.long ((u).toInt64), .long (0 : Int64), .long (1000 : Int64)] (c_inE (m := m) (σ := (pr_up σ 0 6 (0 : Int32))) (v := 1) (pr_hl hA) hm (in_z1 hu1 hu2 (by decide) (by decide))) s_X8_80 rfl (by decide) (Nat.zero_le _) (Nat.zero_le _) rfl (Nat.le_of_ble_eq_true rfl) dX8_reachable_33 ?_
      refine pr_if_ne hA 43 dX8_reachable_36 (by decide) (fun c_36 => ?_) (fun c_36 => ?_)
      · refine pr_iconst hA (0) dX8_reachable_43 (by decide) ?_
        refine pr_iconst hA (2) dX8_reachable_44 (by decide) ?_
        refine pr_callVi hA [.int (0 : Int32), .int (2 : Int32)] (c_tiE (m := m) (σ := (pr_up σ 0 6 (0 : Int32))) (pr_hl hA) hm (ti_0 pr_upe)) v_X8_301 (mo_k0 hm) (by decide) rfl rfl rfl (by decide) (Nat.zero_le _) (Nat.zero_le _) rfl (Nat.le_of_ble_eq_true rfl) dX8_reachable_45 ?_
        refine pr_if_eq hA 53 dX8_reachable_48 (by decide) (fun c_48 => ?_) (fun c_48 => ?_)
        · refine pr_aload_n hA dX8_reachable_53 rfl ?_
          refine pr_iload_n hA dX8_reachable_54 rfl ?_
          refine pr_callVi hA [.int u] (c_m_lw (m := m) (σ := (pr_up σ 0 6 (0 : Int32))) (n := (mtn σ)) (nl := (mln σ)) (u := u) (pr_hl hA) hm ((pr_upv (by decide)).trans (mI_n hI)) (mI_n5 hI) ((pr_upv (by decide)).trans (mI_nl hI)) (mI_nl24 hI)) v_X8_365 (mo_k0 hm) (by decide) rfl rfl rfl (by decide) (Nat.zero_le _) (Nat.zero_le _) rfl (Nat.le_of_ble_eq_true rfl) dX8_reachable_55 ?_
          refine pr_istore_n (ls' := [_, _, _, _, _, _, _]) hA dX8_reachable_58 (by decide) rfl ?_
          refine pr_iconst hA (1) dX8_reachable_59 (by decide) ?_
          refine pr_iload_n hA dX8_reachable_60 rfl ?_
          refine pr_ishl hA dX8_reachable_61 ?_
          refine pr_istore (ls' := [_, _, _, _, _, _, _]) hA dX8_reachable_62 (by decide) rfl ?_
          refine pr_iconst hA (nI 0) dX8_reachable_64 (by decide) ?_
          refine pr_istore (ls' := [_, _, _, _, _, _, _]) hA dX8_reachable_65 (by decide) rfl ?_
          have lp67 : ∀ (j k : Nat), (mnn σ) - k = j → k ≤ (mnn σ) → pr_G g X mX8_reachable.2.2.1 (pr_MQ g X (pr_R (some (.int (mf_reachable_r σ s u))) T (rg_put I m 16 (mf_reachable σ s u)) L) pr_no 0 0) 0 0 67 [.ref m, .int (nI s), .int u, .int (m_lw_r (pr_up σ 0 6 (0 : Int32)) (mtn σ) (mln σ) u), .int (mf_reachable_it67 σ s u k), .int (nI k), .null] [] T (rg_put I m 16 (pr_up σ 0 6 (0 : Int32))) L := by
            intro j
            induction j using Nat.strongRecOn with | ind j ih67 =>
            intro k hj67 hk67
            refine pr_iload hA dX8_reachable_67 rfl ?_
            refine pr_aload_n hA dX8_reachable_69 rfl ?_
            refine pr_getR hA f_X8_9 rfl (mo_k0 hm) (mo_f0_0 hm) dX8_reachable_70 ?_
            refine pr_bipush hA (nI 6) dX8_reachable_73 (by decide) ?_
            refine pr_ialdM (v := (nI (mnn σ))) hA (mo_k1 hm) (by omega) (by omega) ((rg_val (by decide)).trans ((pr_upv (by decide)).trans (mI_nn hI))) dX8_reachable_75 ?_
            refine pr_icmp_ge hA 148 dX8_reachable_76 (by decide) (fun c_76 => ?_) (fun c_76 => ?_)
            · have n_76 : (mnn σ) ≤ k := (nI_leI (by omega) (by omega)).mp c_76
              have hex : (mnn σ) = k := by omega
              subst hex
              refine pr_iload hA dX8_reachable_148 rfl ?_
              exact pr_ireturn hA rfl rfl (Nat.zero_le _) (Nat.zero_le _) dX8_reachable_150 ⟨rfl, rfl, rfl, rfl⟩
            · have n_76 : ¬ (mnn σ) ≤ k := fun q => c_76 ((nI_leI (by omega) (by omega)).mpr q)
              refine pr_iconst hA (nI 0) dX8_reachable_79 (by decide) ?_
              refine pr_istore (ls' := [_, _, _, _, _, _, _]) hA dX8_reachable_80 (by decide) rfl ?_
              have lp82 : ∀ (j k1 : Nat), (mln σ) - k1 = j → k1 ≤ (mln σ) → pr_G g X mX8_reachable.2.2.1 (pr_MQ g X (pr_R (some (.int (mf_reachable_r σ s u))) T (rg_put I m 16 (mf_reachable σ s u)) L) pr_no 0 0) 0 0 82 [.ref m, .int (nI s), .int u, .int (m_lw_r (pr_up σ 0 6 (0 : Int32)) (mtn σ) (mln σ) u), .int (mf_reachable_it82 σ (pr_up σ 0 6 (0 : Int32)) s u k (mf_reachable_it67 σ s u k) k1), .int (nI k), .int (nI k1)] [] T (rg_put I m 16 (pr_up σ 0 6 (0 : Int32))) L := by
                intro j
                induction j using Nat.strongRecOn with | ind j ih82 =>
                intro k1 hj82 hk82
                refine pr_iload hA dX8_reachable_82 rfl ?_
                refine pr_aload_n hA dX8_reachable_84 rfl ?_
                refine pr_getR hA f_X8_9 rfl (mo_k0 hm) (mo_f0_0 hm) dX8_reachable_85 ?_
                refine pr_bipush hA (nI 7) dX8_reachable_88 (by decide) ?_
                refine pr_ialdM (v := (nI (mln σ))) hA (mo_k1 hm) (by omega) (by omega) ((rg_val (by decide)).trans ((pr_upv (by decide)).trans (mI_nl hI))) dX8_reachable_90 ?_
                refine pr_icmp_ge hA 142 dX8_reachable_91 (by decide) (fun c_91 => ?_) (fun c_91 => ?_)
                · have n_91 : (mln σ) ≤ k1 := (nI_leI (by omega) (by omega)).mp c_91
                  have hex : (mln σ) = k1 := by omega
                  subst hex
                  refine pr_iinc (ls' := [_, _, _, _, _, _, _]) hA (nI (k + 1)) dX8_reachable_142 (by decide) rfl (nI_inc _) rfl ?_
                  refine pr_goto hA 67 dX8_reachable_145 (by decide) ?_
                  have hb := ih67 ((mnn σ) - (k + 1)) (by omega) (k + 1) rfl (by omega)
                  simp only [mf_reachable_it67] at hb
                  exact pr_lessL (ls' := [.ref m, .int (nI s), .int u, .int (m_lw_r (pr_up σ 0 6 (0 : Int32)) (mtn σ) (mln σ) u), .int (mf_reachable_it82 σ (pr_up σ 0 6 (0 : Int32)) s u k (mf_reachable_it67 σ s u k) (mln σ)), .int (nI (k + 1)), .null]) ⟨.inr rfl, .inr rfl, .inr rfl, .inr rfl, .inr rfl, .inr rfl, .inl rfl, trivial⟩ hb
                · have n_91 : ¬ (mln σ) ≤ k1 := fun q => c_91 ((nI_leI (by omega) (by omega)).mpr q)
                  refine pr_iload hA dX8_reachable_94 rfl ?_
                  refine pr_iload_n hA dX8_reachable_96 rfl ?_
                  refine pr_iload hA dX8_reachable_97 rfl ?_
                  refine pr_callSi hA [.int (m_lw_r (pr_up σ 0 6 (0 : Int32)) (mtn σ) (mln σ) u), .int (nI k1)] (c_m_has (m := m) (σ := (pr_up σ 0 6 (0 : Int32))) (s := (m_lw_r (pr_up σ 0 6 (0 : Int32)) (mtn σ) (mln σ) u)) (k := (nI k1)) (pr_hl hA) hm) s_X8_213 rfl (by decide) (Nat.zero_le _) (Nat.zero_le _) rfl (Nat.le_of_ble_eq_true rfl) dX8_reachable_99 ?_
                  refine pr_join (c := (m_has_r (pr_up σ 0 6 (0 : Int32)) (m_lw_r (pr_up σ 0 6 (0 : Int32)) (mtn σ) (mln σ) u) (nI k1)) = 0) (J := 133) (st := [.int (mf_reachable_it82 σ (pr_up σ 0 6 (0 : Int32)) s u k (mf_reachable_it67 σ s u k) k1)]) (0 : Int32) (if (m_has_r (pr_up σ 0 6 (0 : Int32)) (mf_reachable_it82 σ (pr_up σ 0 6 (0 : Int32)) s u k (mf_reachable_it67 σ s u k) k1) (σ 1 (96 + 7 * k1 + 0))) = 0 then (0 : Int32) else ((1 : Int32) <<< ((σ 1 (96 + 7 * k1 + 1)) &&& 31))) inferInstance (fun kt kf => ?_) ?_
                  · refine pr_if_eq hA 132 dX8_reachable_102 (by decide) (fun c_102 => ?_) (fun c_102 => ?_)
                    · refine pr_iconst hA (0) dX8_reachable_132 (by decide) ?_
                      exact kt c_102
                    · refine pr_iload hA dX8_reachable_105 rfl ?_
                      refine pr_aload_n hA dX8_reachable_107 rfl ?_
                      refine pr_iload hA dX8_reachable_108 rfl ?_
                      refine pr_iconst hA (0) dX8_reachable_110 (by decide) ?_
                      refine pr_callVi hA [.int (nI k1), .int (0 : Int32)] (c_m_link (m := m) (k := k1) (c := 0) (σ := (pr_up σ 0 6 (0 : Int32))) (pr_hl hA) hm (by omega) (by omega)) v_X8_204 (mo_k0 hm) (by decide) rfl rfl rfl (by decide) (Nat.zero_le _) (Nat.zero_le _) rfl (Nat.le_of_ble_eq_true rfl) dX8_reachable_111 ?_
                      rw [show ((pr_up σ 0 6 (0 : Int32)) 1 (96 + 7 * k1 + 0)) = (σ 1 (96 + 7 * k1 + 0)) from (pr_upv (by decide))]
                      refine pr_callSi hA [.int (mf_reachable_it82 σ (pr_up σ 0 6 (0 : Int32)) s u k (mf_reachable_it67 σ s u k) k1), .int (σ 1 (96 + 7 * k1 + 0))] (c_m_has (m := m) (σ := (pr_up σ 0 6 (0 : Int32))) (s := (mf_reachable_it82 σ (pr_up σ 0 6 (0 : Int32)) s u k (mf_reachable_it67 σ s u k) k1)) (k := (σ 1 (96 + 7 * k1 + 0))) (pr_hl hA) hm) s_X8_213 rfl (by decide) (Nat.zero_le _) (Nat.zero_le _) rfl (Nat.le_of_ble_eq_true rfl) dX8_reachable_114 ?_
                      refine pr_join (c := (m_has_r (pr_up σ 0 6 (0 : Int32)) (mf_reachable_it82 σ (pr_up σ 0 6 (0 : Int32)) s u k (mf_reachable_it67 σ s u k) k1) (σ 1 (96 + 7 * k1 + 0))) = 0) (J := 133) (st := [.int (mf_reachable_it82 σ (pr_up σ 0 6 (0 : Int32)) s u k (mf_reachable_it67 σ s u k) k1)]) (0 : Int32) ((1 : Int32) <<< ((σ 1 (96 + 7 * k1 + 1)) &&& 31)) inferInstance (fun kt kf => ?_) ?_
                      · refine pr_if_eq hA 132 dX8_reachable_117 (by decide) (fun c_117 => ?_) (fun c_117 => ?_)
                        · refine pr_iconst hA (0) dX8_reachable_132 (by decide) ?_
                          exact kt c_117
                        · refine pr_iconst hA (1) dX8_reachable_120 (by decide) ?_
                          refine pr_aload_n hA dX8_reachable_121 rfl ?_
                          refine pr_iload hA dX8_reachable_122 rfl ?_
                          refine pr_iconst hA (1) dX8_reachable_124 (by decide) ?_
                          refine pr_callVi hA [.int (nI k1), .int (1 : Int32)] (c_m_link (m := m) (k := k1) (c := 1) (σ := (pr_up σ 0 6 (0 : Int32))) (pr_hl hA) hm (by omega) (by omega)) v_X8_204 (mo_k0 hm) (by decide) rfl rfl rfl (by decide) (Nat.zero_le _) (Nat.zero_le _) rfl (Nat.le_of_ble_eq_true rfl) dX8_reachable_125 ?_
                          rw [show ((pr_up σ 0 6 (0 : Int32)) 1 (96 + 7 * k1 + 1)) = (σ 1 (96 + 7 * k1 + 1)) from (pr_upv (by decide))]
                          refine pr_ishl hA dX8_reachable_128 ?_
                          refine pr_goto hA 133 dX8_reachable_129 (by decide) ?_
                          exact kf c_117
                      · exact kf c_102
                  · refine pr_ior hA dX8_reachable_133 ?_
                    refine pr_istore (ls' := [_, _, _, _, _, _, _]) hA dX8_reachable_134 (by decide) rfl ?_
                    refine pr_iinc (ls' := [_, _, _, _, _, _, _]) hA (nI (k1 + 1)) dX8_reachable_136 (by decide) rfl (nI_inc _) rfl ?_
                    refine pr_goto hA 82 dX8_reachable_139 (by decide) ?_
                    have hb := ih82 ((mln σ) - (k1 + 1)) (by omega) (k1 + 1) rfl (by omega)
                    simp only [mf_reachable_it82] at hb
                    exact hb
              exact (lp82 ((mln σ) - 0) 0 rfl (by omega))
          exact (lp67 ((mnn σ) - 0) 0 rfl (by omega))
        · exact (c_48 (by decide)).elim
      · exact absurd c_36 (by decide)
  · exact absurd c_11 (by decide)

theorem fr_mf_reachable {σ : pr_I} {s : Nat} {u : Int32} {o : Nat} (hms : ∀ m ∈ ([0] : List Nat), o ≠ m) : mf_reachable σ s u o = σ o := by
  unfold mf_reachable
  simp only [List.mem_cons, List.not_mem_nil, or_false, forall_eq_or_imp, forall_eq] at hms
  rw [pr_up_ne (by omega)]

noncomputable def mf_criticalLinks_it38 (σ : pr_I) (s : Nat) (t : Nat) (u : Int32) : Nat → pr_I × Int32
  | 0 => ((m_fi (pr_up σ 0 6 (0 : Int32)) (nI s) (nI t) (m_lw_r (pr_up σ 0 6 (0 : Int32)) (mtn σ) (mln σ) u)), (0 : Int32))
  | k + 1 => (if (m_has_r (mf_criticalLinks_it38 σ s t u k).1 (m_lw_r (pr_up σ 0 6 (0 : Int32)) (mtn σ) (mln σ) u) (nI k)) = 0 then ((mf_criticalLinks_it38 σ s t u k).1, (((mf_criticalLinks_it38 σ s t u k).2) ||| (0 : Int32))) else ((m_fi (mf_criticalLinks_it38 σ s t u k).1 (nI s) (nI t) ((m_lw_r (pr_up σ 0 6 (0 : Int32)) (mtn σ) (mln σ) u) &&& (((1 : Int32) <<< ((nI k) &&& 31)) ^^^ ((-1) : Int32)))), (((mf_criticalLinks_it38 σ s t u k).2) ||| (if (m_fi_r (mf_criticalLinks_it38 σ s t u k).1 (nI s) (nI t) ((m_lw_r (pr_up σ 0 6 (0 : Int32)) (mtn σ) (mln σ) u) &&& (((1 : Int32) <<< ((nI k) &&& 31)) ^^^ ((-1) : Int32)))) = 0 then ((1 : Int32) <<< ((nI k) &&& 31)) else (0 : Int32)))))
theorem fr_mf_criticalLinks_it38 {σ : pr_I} {s : Nat} {t : Nat} {u : Int32} {o : Nat} (hms : ∀ m ∈ ([0, 8, 9, 10] : List Nat), o ≠ m) : ∀ {k : Nat}, (mf_criticalLinks_it38 σ s t u k).1 o = (m_fi (pr_up σ 0 6 (0 : Int32)) (nI s) (nI t) (m_lw_r (pr_up σ 0 6 (0 : Int32)) (mtn σ) (mln σ) u)) o := by
  simp only [List.mem_cons, List.not_mem_nil, or_false, forall_eq_or_imp, forall_eq] at hms
  intro k
  induction k with
  | zero =>
    show (m_fi (pr_up σ 0 6 (0 : Int32)) (nI s) (nI t) (m_lw_r (pr_up σ 0 6 (0 : Int32)) (mtn σ) (mln σ) u)) o = (m_fi (pr_up σ 0 6 (0 : Int32)) (nI s) (nI t) (m_lw_r (pr_up σ 0 6 (0 : Int32)) (mtn σ) (mln σ) u)) o
    rfl
  | succ k ih =>
    by_cases c_59 : (m_has_r (mf_criticalLinks_it38 σ s t u k).1 (m_lw_r (pr_up σ 0 6 (0 : Int32)) (mtn σ) (mln σ) u) (nI k)) = 0
    · refine (congrFun (congrArg (fun z : pr_I × Int32 => z.1) (if_pos c_59)) o).trans ?_
      show (mf_criticalLinks_it38 σ s t u k).1 o = (m_fi (pr_up σ 0 6 (0 : Int32)) (nI s) (nI t) (m_lw_r (pr_up σ 0 6 (0 : Int32)) (mtn σ) (mln σ) u)) o
      rw [ih]
    · refine (congrFun (congrArg (fun z : pr_I × Int32 => z.1) (if_neg c_59)) o).trans ?_
      show (m_fi (mf_criticalLinks_it38 σ s t u k).1 (nI s) (nI t) ((m_lw_r (pr_up σ 0 6 (0 : Int32)) (mtn σ) (mln σ) u) &&& (((1 : Int32) <<< ((nI k) &&& 31)) ^^^ ((-1) : Int32)))) o = (m_fi (pr_up σ 0 6 (0 : Int32)) (nI s) (nI t) (m_lw_r (pr_up σ 0 6 (0 : Int32)) (mtn σ) (mln σ) u)) o
      rw [fr_m_fi (by simp only [List.mem_cons, List.not_mem_nil, or_false, forall_eq_or_imp, forall_eq]; omega), ih]

noncomputable def mf_criticalLinks_r (σ : pr_I) (s : Nat) (t : Nat) (u : Int32) : Int32 := (if (m_fi_r (pr_up σ 0 6 (0 : Int32)) (nI s) (nI t) (m_lw_r (pr_up σ 0 6 (0 : Int32)) (mtn σ) (mln σ) u)) = 0 then (0 : Int32) else ((mf_criticalLinks_it38 σ s t u (mln σ)).2))
noncomputable def mf_criticalLinks (σ : pr_I) (s : Nat) (t : Nat) (u : Int32) : pr_I := (if (m_fi_r (pr_up σ 0 6 (0 : Int32)) (nI s) (nI t) (m_lw_r (pr_up σ 0 6 (0 : Int32)) (mtn σ) (mln σ) u)) = 0 then (m_fi (pr_up σ 0 6 (0 : Int32)) (nI s) (nI t) (m_lw_r (pr_up σ 0 6 (0 : Int32)) (mtn σ) (mln σ) u)) else (mf_criticalLinks_it38 σ s t u (mln σ)).1)
theorem mI_mf_criticalLinks_it38 {σ : pr_I} {s t : Nat} {u : Int32} (hI : mI σ) (hs0 : vp_in (nI s) 12) : ∀ i, mI (mf_criticalLinks_it38 σ s t u i).1
  | 0 => mI_m_fi (mI.upn hI rfl) hs0
  | i + 1 => by
    have ih := mI_mf_criticalLinks_it38 (t := t) (u := u) hI hs0 i
    unfold mf_criticalLinks_it38
    exact p_ite (P := fun z : pr_I × Int32 => mI z.1) ih (mI_m_fi ih hs0)
set_option maxRecDepth 100000 in
set_option maxHeartbeats 400000 in
theorem c_mf_criticalLinks {g : pr_C} {l : Launch} (hl : l.stackTraces = false) {T : pr_T} {I : pr_I} {L : pr_L} {m : Nat} {σ : pr_I} {s : Nat} {t : Nat} {u : Int32} (hm : pr_Mo T m) (hI : mI σ) (hs : s < mnn σ) (ht : t < mnn σ) (hst : s ≠ t) (hu1 : 0 ≤ u) (hu2 : u ≤ 1000) (hok : m_fi_ok (pr_up σ 0 6 (0 : Int32)) (nI s) (nI t) (m_lw_r (pr_up σ 0 6 (0 : Int32)) (mtn σ) (mln σ) u)) (hoks : ∀ i, i < mln σ → m_fi_ok (mf_criticalLinks_it38 σ s t u i).1 (nI s) (nI t) ((m_lw_r (pr_up σ 0 6 (0 : Int32)) (mtn σ) (mln σ) u) &&& (((1 : Int32) <<< ((nI i) &&& 31)) ^^^ ((-1) : Int32)))) : pr_M g l 11 0 0 mX8_criticalLinks [.ref m, .int (nI s), .int (nI t), .int u] T (rg_put I m 16 σ) L (pr_R (some (.int (mf_criticalLinks_r σ s t u))) T (rg_put I m 16 (mf_criticalLinks σ s t u)) L) pr_no := by
  refine pr_ofG (by decide) rfl hl (Nat.le_of_ble_eq_true rfl) (fun X hA hX hXn hXt => ?_)
  subst hX
  show pr_G g X mX8_criticalLinks.2.2.1 _ 0 0 0 [.ref m, .int (nI s), .int (nI t), .int u, .null, .null, .null] [] T (rg_put I m 16 σ) L
  have hn5 := mI_n5 hI
  have hr4 := mI_nr4 hI
  have hl24 := mI_nl24 hI
  have hn12 := mI_nn12 hI
  have hs0 : vp_in (nI s) 12 := nI_vin (by omega) (by decide)
  have ht0 : vp_in (nI t) 12 := nI_vin (by omega) (by decide)
  have hn0 : vp_in ((m_fi (pr_up σ 0 6 (0 : Int32)) (nI s) (nI t) (m_lw_r (pr_up σ 0 6 (0 : Int32)) (mtn σ) (mln σ) u)) 0 17) 13 := vp_in_mono hok.2.2.2 (by decide)
  have hn1 := vp_in_lt hok.2.2.2
  refine pr_aload_n hA dX8_criticalLinks_0 rfl ?_
  refine pr_iload_n hA dX8_criticalLinks_1 rfl ?_
  refine pr_iload_n hA dX8_criticalLinks_2 rfl ?_
  refine pr_iload_n hA dX8_criticalLinks_3 rfl ?_
  have hv4 : mI σ := hI
  refine pr_callVi hA [.int (nI s), .int (nI t), .int u] (c_ne_ok (m := m) (σ := σ) (pr_hl hA) hm hv4 (by omega) (by omega) (by omega) hu1 hu2) v_X8_362 (mo_k0 hm) (by decide) rfl rfl rfl (by decide) (Nat.zero_le _) (Nat.zero_le _) rfl (Nat.le_of_ble_eq_true rfl) dX8_criticalLinks_4 ?_
  refine pr_if_eq hA 12 dX8_criticalLinks_7 (by decide) (fun c_7 => ?_) (fun c_7 => ?_)
  · refine pr_aload_n hA dX8_criticalLinks_12 rfl ?_
    refine pr_iload_n hA dX8_criticalLinks_13 rfl ?_
    refine pr_callVi hA [.int u] (c_m_lw (m := m) (σ := (pr_up σ 0 6 (0 : Int32))) (n := (mtn σ)) (nl := (mln σ)) (u := u) (pr_hl hA) hm ((pr_upv (by decide)).trans (mI_n hI)) (mI_n5 hI) ((pr_upv (by decide)).trans (mI_nl hI)) (mI_nl24 hI)) v_X8_365 (mo_k0 hm) (by decide) rfl rfl rfl (by decide) (Nat.zero_le _) (Nat.zero_le _) rfl (Nat.le_of_ble_eq_true rfl) dX8_criticalLinks_14 ?_
    refine pr_istore (ls' := [_, _, _, _, _, _, _]) hA dX8_criticalLinks_17 (by decide) rfl ?_
    refine pr_aload_n hA dX8_criticalLinks_19 rfl ?_
    refine pr_iload_n hA dX8_criticalLinks_20 rfl ?_
    refine pr_iload_n hA dX8_criticalLinks_21 rfl ?_
    refine pr_iload hA dX8_criticalLinks_22 rfl ?_
    have hv24 : mI (pr_up σ 0 6 (0 : Int32)) := (mI.upn hI rfl)
    refine pr_callVi hA [.int (nI s), .int (nI t), .int (m_lw_r (pr_up σ 0 6 (0 : Int32)) (mtn σ) (mln σ) u)] (c_m_fi (m := m) (σ := (pr_up σ 0 6 (0 : Int32))) (s := (nI s)) (t := (nI t)) (u := (m_lw_r (pr_up σ 0 6 (0 : Int32)) (mtn σ) (mln σ) u)) (pr_hl hA) hm hv24 hs0 ht0 hok.1 hok.2.1 hok.2.2.1) v_X8_235 (mo_k0 hm) (by decide) rfl rfl rfl (by decide) (Nat.zero_le _) (Nat.zero_le _) rfl (Nat.le_of_ble_eq_true rfl) dX8_criticalLinks_24 ?_
    refine pr_if_ne hA 32 dX8_criticalLinks_27 (by decide) (fun c_27 => ?_) (fun c_27 => ?_)
    · refine pr_iconst hA (0) dX8_criticalLinks_32 (by decide) ?_
      refine pr_istore (ls' := [_, _, _, _, _, _, _]) hA dX8_criticalLinks_33 (by decide) rfl ?_
      refine pr_iconst hA (nI 0) dX8_criticalLinks_35 (by decide) ?_
      refine pr_istore (ls' := [_, _, _, _, _, _, _]) hA dX8_criticalLinks_36 (by decide) rfl ?_
      have lp38 : ∀ (j k : Nat), (mln σ) - k = j → k ≤ (mln σ) → pr_G g X mX8_criticalLinks.2.2.1 (pr_MQ g X (pr_R (some (.int (mf_criticalLinks_r σ s t u))) T (rg_put I m 16 (mf_criticalLinks σ s t u)) L) pr_no 0 0) 0 0 38 [.ref m, .int (nI s), .int (nI t), .int u, .int (m_lw_r (pr_up σ 0 6 (0 : Int32)) (mtn σ) (mln σ) u), .int ((mf_criticalLinks_it38 σ s t u k).2), .int (nI k)] [] T (rg_put I m 16 (mf_criticalLinks_it38 σ s t u k).1) L := by
        intro j
        induction j using Nat.strongRecOn with | ind j ih38 =>
        intro k hj38 hk38
        refine pr_iload hA dX8_criticalLinks_38 rfl ?_
        refine pr_aload_n hA dX8_criticalLinks_40 rfl ?_
        refine pr_getR hA f_X8_9 rfl (mo_k0 hm) (mo_f0_0 hm) dX8_criticalLinks_41 ?_
        refine pr_bipush hA (nI 7) dX8_criticalLinks_44 (by decide) ?_
        refine pr_ialdM (v := (nI (mln σ))) hA (mo_k1 hm) (by omega) (by omega) ((rg_val (by decide)).trans ((congrFun (fr_mf_criticalLinks_it38 (by decide)) _).trans ((congrFun (fr_m_fi (by decide)) _).trans ((pr_upv (by decide)).trans (mI_nl hI))))) dX8_criticalLinks_46 ?_
        refine pr_icmp_ge hA 97 dX8_criticalLinks_47 (by decide) (fun c_47 => ?_) (fun c_47 => ?_)
        · have n_47 : (mln σ) ≤ k := (nI_leI (by omega) (by omega)).mp c_47
          have hex : (mln σ) = k := by omega
          subst hex
          refine pr_iload hA dX8_criticalLinks_97 rfl ?_
          exact pr_ireturn hA rfl rfl (Nat.zero_le _) (Nat.zero_le _) dX8_criticalLinks_99 ⟨(by simp only [mf_criticalLinks_r, if_neg c_27]), rfl, (by simp only [mf_criticalLinks, if_neg c_27]), rfl⟩
        · have n_47 : ¬ (mln σ) ≤ k := fun q => c_47 ((nI_leI (by omega) (by omega)).mpr q)
          refine pr_iload hA dX8_criticalLinks_50 rfl ?_
          refine pr_iload hA dX8_criticalLinks_52 rfl ?_
          refine pr_iload hA dX8_criticalLinks_54 rfl ?_
          refine pr_callSi hA [.int (m_lw_r (pr_up σ 0 6 (0 : Int32)) (mtn σ) (mln σ) u), .int (nI k)] (c_m_has (m := m) (σ := (mf_criticalLinks_it38 σ s t u k).1) (s := (m_lw_r (pr_up σ 0 6 (0 : Int32)) (mtn σ) (mln σ) u)) (k := (nI k)) (pr_hl hA) hm) s_X8_213 rfl (by decide) (Nat.zero_le _) (Nat.zero_le _) rfl (Nat.le_of_ble_eq_true rfl) dX8_criticalLinks_56 ?_
          refine pr_if_eq hA 87 dX8_criticalLinks_59 (by decide) (fun c_59 => ?_) (fun c_59 => ?_)
          · refine pr_iconst hA (0) dX8_criticalLinks_87 (by decide) ?_
            refine pr_ior hA dX8_criticalLinks_88 ?_
            refine pr_istore (ls' := [_, _, _, _, _, _, _]) hA dX8_criticalLinks_89 (by decide) rfl ?_
            refine pr_iinc (ls' := [_, _, _, _, _, _, _]) hA (nI (k + 1)) dX8_criticalLinks_91 (by decide) rfl (nI_inc _) rfl ?_
            refine pr_goto hA 38 dX8_criticalLinks_94 (by decide) ?_
            have hb := ih38 ((mln σ) - (k + 1)) (by omega) (k + 1) rfl (by omega)
            simp only [mf_criticalLinks_it38, if_pos c_59] at hb
            exact hb
          · refine pr_aload_n hA dX8_criticalLinks_62 rfl ?_
            refine pr_iload_n hA dX8_criticalLinks_63 rfl ?_
            refine pr_iload_n hA dX8_criticalLinks_64 rfl ?_
            refine pr_iload hA dX8_criticalLinks_65 rfl ?_
            refine pr_iconst hA (1) dX8_criticalLinks_67 (by decide) ?_
            refine pr_iload hA dX8_criticalLinks_68 rfl ?_
            refine pr_ishl hA dX8_criticalLinks_70 ?_
            refine pr_iconst hA ((-1)) dX8_criticalLinks_71 (by decide) ?_
            refine pr_ixor hA dX8_criticalLinks_72 ?_
            refine pr_iand hA dX8_criticalLinks_73 ?_
            have hv74 : mI (mf_criticalLinks_it38 σ s t u k).1 := (mI_mf_criticalLinks_it38 hI hs0 k)
            refine pr_callVi hA [.int (nI s), .int (nI t), .int ((m_lw_r (pr_up σ 0 6 (0 : Int32)) (mtn σ) (mln σ) u) &&& (((1 : Int32) <<< ((nI k) &&& 31)) ^^^ ((-1) : Int32)))] (c_m_fi (m := m) (σ := (mf_criticalLinks_it38 σ s t u k).1) (s := (nI s)) (t := (nI t)) (u := ((m_lw_r (pr_up σ 0 6 (0 : Int32)) (mtn σ) (mln σ) u) &&& (((1 : Int32) <<< ((nI k) &&& 31)) ^^^ ((-1) : Int32)))) (pr_hl hA) hm hv74 hs0 ht0 (hoks k (by omega)).1 (hoks k (by omega)).2.1 (hoks k (by omega)).2.2.1) v_X8_235 (mo_k0 hm) (by decide) rfl rfl rfl (by decide) (Nat.zero_le _) (Nat.zero_le _) rfl (Nat.le_of_ble_eq_true rfl) dX8_criticalLinks_74 ?_
            refine pr_join (c := (m_fi_r (mf_criticalLinks_it38 σ s t u k).1 (nI s) (nI t) ((m_lw_r (pr_up σ 0 6 (0 : Int32)) (mtn σ) (mln σ) u) &&& (((1 : Int32) <<< ((nI k) &&& 31)) ^^^ ((-1) : Int32)))) = 0) (J := 88) (st := [.int ((mf_criticalLinks_it38 σ s t u k).2)]) ((1 : Int32) <<< ((nI k) &&& 31)) (0 : Int32) inferInstance (fun kt kf => ?_) ?_
            · refine pr_if_ne hA 87 dX8_criticalLinks_77 (by decide) (fun c_77 => ?_) (fun c_77 => ?_)
              · refine pr_iconst hA (0) dX8_criticalLinks_87 (by decide) ?_
                exact kf c_77
              · refine pr_iconst hA (1) dX8_criticalLinks_80 (by decide) ?_
                refine pr_iload hA dX8_criticalLinks_81 rfl ?_
                refine pr_ishl hA dX8_criticalLinks_83 ?_
                refine pr_goto hA 88 dX8_criticalLinks_84 (by decide) ?_
                exact kt c_77
            · refine pr_ior hA dX8_criticalLinks_88 ?_
              refine pr_istore (ls' := [_, _, _, _, _, _, _]) hA dX8_criticalLinks_89 (by decide) rfl ?_
              refine pr_iinc (ls' := [_, _, _, _, _, _, _]) hA (nI (k + 1)) dX8_criticalLinks_91 (by decide) rfl (nI_inc _) rfl ?_
              refine pr_goto hA 38 dX8_criticalLinks_94 (by decide) ?_
              have hb := ih38 ((mln σ) - (k + 1)) (by omega) (k + 1) rfl (by omega)
              simp only [mf_criticalLinks_it38, if_neg c_59] at hb
              exact hb
      exact (lp38 ((mln σ) - 0) 0 rfl (by omega))
    · refine pr_iconst hA (0) dX8_criticalLinks_30 (by decide) ?_
      exact pr_ireturn hA rfl rfl (Nat.zero_le _) (Nat.zero_le _) dX8_criticalLinks_31 ⟨(by simp only [mf_criticalLinks_r, if_pos c_27]), rfl, (by simp only [mf_criticalLinks, if_pos c_27]), rfl⟩
  · exact (c_7 (by decide)).elim

theorem fr_mf_criticalLinks {σ : pr_I} {s : Nat} {t : Nat} {u : Int32} {o : Nat} (hms : ∀ m ∈ ([0, 8, 9, 10] : List Nat), o ≠ m) : mf_criticalLinks σ s t u o = σ o := by
  unfold mf_criticalLinks
  simp only [List.mem_cons, List.not_mem_nil, or_false, forall_eq_or_imp, forall_eq] at hms
  by_cases c_27 : (m_fi_r (pr_up σ 0 6 (0 : Int32)) (nI s) (nI t) (m_lw_r (pr_up σ 0 6 (0 : Int32)) (mtn σ) (mln σ) u)) = 0
  · refine (congrFun (if_pos c_27) o).trans ?_
    rw [fr_m_fi (by simp only [List.mem_cons, List.not_mem_nil, or_false, forall_eq_or_imp, forall_eq]; omega), pr_up_ne (by omega)]
  · refine (congrFun (if_neg c_27) o).trans ?_
    rw [fr_mf_criticalLinks_it38 (by simp only [List.mem_cons, List.not_mem_nil, or_false, forall_eq_or_imp, forall_eq]; omega), fr_m_fi (by simp only [List.mem_cons, List.not_mem_nil, or_false, forall_eq_or_imp, forall_eq]; omega), pr_up_ne (by omega)]

