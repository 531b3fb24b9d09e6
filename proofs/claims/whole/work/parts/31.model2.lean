theorem nb_ite {c : Prop} [Decidable c] {a b : Int32} (ha : a = 0 ∨ a = 1) (hb : b = 0 ∨ b = 1) : (if c then a else b) = 0 ∨ (if c then a else b) = 1 := by by_cases q : c <;> simp only [q, if_true, if_false] <;> assumption
noncomputable def m_in_r (σ : pr_I) (a : Int64) (b : Int64) (c : Int64) : Int32 := (if (lg_cmp a b) < 0 then (0 : Int32) else (if 0 < (lg_cmp a c) then (0 : Int32) else (1 : Int32)))
set_option maxRecDepth 100000 in
set_option maxHeartbeats 400000 in
theorem c_m_in {g : pr_C} {l : Launch} (hl : l.stackTraces = false) {T : pr_T} {I : pr_I} {L : pr_L} {m : Nat} {σ : pr_I} {a : Int64} {b : Int64} {c : Int64} (hm : pr_Mo T m)  : pr_M g l 1 0 0 mX8_in [.long a, .long b, .long c] T (rg_put I m 16 σ) L (pr_R (some (.int (m_in_r σ a b c))) T (rg_put I m 16 σ) L) pr_no := by
  refine pr_ofG (by decide) rfl hl (Nat.le_of_ble_eq_true rfl) (fun X hA hX hXn hXt => ?_)
  subst hX
  show pr_G g X mX8_in.2.2.1 _ 0 0 0 [.long a, .null, .long b, .null, .long c, .null] [] T (rg_put I m 16 σ) L
  refine pr_lload_n hA dX8_in_0 rfl ?_
  refine pr_lload_n hA dX8_in_1 rfl ?_
  refine pr_lcmp hA dX8_in_2 ?_
  refine pr_join (c := (lg_cmp a b) < 0) (J := 18) (st := []) (0 : Int32) (if 0 < (lg_cmp a c) then (0 : Int32) else (1 : Int32)) inferInstance (fun kt kf => ?_) ?_
  · refine pr_if_lt hA 17 dX8_in_3 (by decide) (fun c_3 => ?_) (fun c_3 => ?_)
    · refine pr_iconst hA (0) dX8_in_17 (by decide) ?_
      exact kt c_3
    · refine pr_lload_n hA dX8_in_6 rfl ?_
      refine pr_lload hA dX8_in_7 rfl ?_
      refine pr_lcmp hA dX8_in_9 ?_
      refine pr_join (c := 0 < (lg_cmp a c)) (J := 18) (st := []) (0 : Int32) (1 : Int32) inferInstance (fun kt kf => ?_) ?_
      · refine pr_if_gt hA 17 dX8_in_10 (by decide) (fun c_10 => ?_) (fun c_10 => ?_)
        · refine pr_iconst hA (0) dX8_in_17 (by decide) ?_
          exact kt c_10
        · refine pr_iconst hA (1) dX8_in_13 (by decide) ?_
          refine pr_goto hA 18 dX8_in_14 (by decide) ?_
          exact kf c_10
      · exact kf c_3
  · exact pr_ireturn hA rfl (pr_nb (by repeat (first | exact Or.inl rfl | exact Or.inr rfl | refine nb_ite ?_ ?_))) (Nat.zero_le _) (Nat.zero_le _) dX8_in_18 ⟨rfl, rfl, rfl, rfl⟩

noncomputable def m_has_r (σ : pr_I) (s : Int32) (k : Int32) : Int32 := (if ((s >>> (k &&& 31)) &&& (1 : Int32)) = (1 : Int32) then (1 : Int32) else (0 : Int32))
set_option maxRecDepth 100000 in
set_option maxHeartbeats 400000 in
theorem c_m_has {g : pr_C} {l : Launch} (hl : l.stackTraces = false) {T : pr_T} {I : pr_I} {L : pr_L} {m : Nat} {σ : pr_I} {s : Int32} {k : Int32} (hm : pr_Mo T m)  : pr_M g l 1 0 0 mX8_has [.int s, .int k] T (rg_put I m 16 σ) L (pr_R (some (.int (m_has_r σ s k))) T (rg_put I m 16 σ) L) pr_no := by
  refine pr_ofG (by decide) rfl hl (Nat.le_of_ble_eq_true rfl) (fun X hA hX hXn hXt => ?_)
  subst hX
  show pr_G g X mX8_has.2.2.1 _ 0 0 0 [.int s, .int k] [] T (rg_put I m 16 σ) L
  refine pr_iload_n hA dX8_has_0 rfl ?_
  refine pr_iload_n hA dX8_has_1 rfl ?_
  refine pr_ishr hA dX8_has_2 ?_
  refine pr_iconst hA (1) dX8_has_3 (by decide) ?_
  refine pr_iand hA dX8_has_4 ?_
  refine pr_iconst hA (1) dX8_has_5 (by decide) ?_
  refine pr_join (c := ((s >>> (k &&& 31)) &&& (1 : Int32)) = (1 : Int32)) (J := 14) (st := []) (1 : Int32) (0 : Int32) inferInstance (fun kt kf => ?_) ?_
  · refine pr_icmp_ne hA 13 dX8_has_6 (by decide) (fun c_6 => ?_) (fun c_6 => ?_)
    · refine pr_iconst hA (0) dX8_has_13 (by decide) ?_
      exact kf c_6
    · refine pr_iconst hA (1) dX8_has_9 (by decide) ?_
      refine pr_goto hA 14 dX8_has_10 (by decide) ?_
      exact kt c_6
  · exact pr_ireturn hA rfl (pr_nb (by repeat (first | exact Or.inl rfl | exact Or.inr rfl | refine nb_ite ?_ ?_))) (Nat.zero_le _) (Nat.zero_le _) dX8_has_14 ⟨rfl, rfl, rfl, rfl⟩

noncomputable def m_ti_r (σ : pr_I) (b : Int32) (c : Int32) : Int32 := (if (σ 0 6) = 0 then (if b = 0 then (if (σ 0 6) = 0 then (0 : Int32) else (1 : Int32)) else (if c = 0 then (0 : Int32) else (1 : Int32))) else (if (σ 0 6) = 0 then (0 : Int32) else (1 : Int32)))
noncomputable def m_ti (σ : pr_I) (b : Int32) (c : Int32) : pr_I := (if (σ 0 6) = 0 then (if b = 0 then σ else (pr_up σ 0 6 c)) else σ)
set_option maxRecDepth 100000 in
set_option maxHeartbeats 400000 in
theorem c_m_ti {g : pr_C} {l : Launch} (hl : l.stackTraces = false) {T : pr_T} {I : pr_I} {L : pr_L} {m : Nat} {σ : pr_I} {b : Int32} {c : Int32} (hm : pr_Mo T m)  : pr_M g l 2 0 0 mX8_throwsIf [.ref m, .int b, .int c] T (rg_put I m 16 σ) L (pr_R (some (.int (m_ti_r σ b c))) T (rg_put I m 16 (m_ti σ b c)) L) pr_no := by
  refine pr_ofG (by decide) rfl hl (Nat.le_of_ble_eq_true rfl) (fun X hA hX hXn hXt => ?_)
  subst hX
  show pr_G g X mX8_throwsIf.2.2.1 _ 0 0 0 [.ref m, .int b, .int c] [] T (rg_put I m 16 σ) L
  refine pr_aload_n hA dX8_throwsIf_0 rfl ?_
  refine pr_getE (v := (σ 0 6)) hA f_X8_60 rfl (mo_k0 hm) (rg_val0 (by decide)) dX8_throwsIf_1 ?_
  refine pr_if_ne hA 16 dX8_throwsIf_4 (by decide) (fun c_4 => ?_) (fun c_4 => ?_)
  · refine pr_aload_n hA dX8_throwsIf_16 rfl ?_
    refine pr_getE (v := (σ 0 6)) hA f_X8_60 rfl (mo_k0 hm) (rg_val0 (by decide)) dX8_throwsIf_17 ?_
    refine pr_join (c := (σ 0 6) = 0) (J := 28) (st := []) (0 : Int32) (1 : Int32) inferInstance (fun kt kf => ?_) ?_
    · refine pr_if_eq hA 27 dX8_throwsIf_20 (by decide) (fun c_20 => ?_) (fun c_20 => ?_)
      · refine pr_iconst hA (0) dX8_throwsIf_27 (by decide) ?_
        exact kt c_20
      · refine pr_iconst hA (1) dX8_throwsIf_23 (by decide) ?_
        refine pr_goto hA 28 dX8_throwsIf_24 (by decide) ?_
        exact kf c_20
    · exact pr_ireturn hA rfl (pr_nb (by repeat (first | exact Or.inl rfl | exact Or.inr rfl | refine nb_ite ?_ ?_))) (Nat.zero_le _) (Nat.zero_le _) dX8_throwsIf_28 ⟨(by simp only [m_ti_r, if_neg c_4]), rfl, (by simp only [m_ti, if_neg c_4]), rfl⟩
  · refine pr_iload_n hA dX8_throwsIf_7 rfl ?_
    refine pr_if_eq hA 16 dX8_throwsIf_8 (by decide) (fun c_8 => ?_) (fun c_8 => ?_)
    · refine pr_aload_n hA dX8_throwsIf_16 rfl ?_
      refine pr_getE (v := (σ 0 6)) hA f_X8_60 rfl (mo_k0 hm) (rg_val0 (by decide)) dX8_throwsIf_17 ?_
      refine pr_join (c := (σ 0 6) = 0) (J := 28) (st := []) (0 : Int32) (1 : Int32) inferInstance (fun kt kf => ?_) ?_
      · refine pr_if_eq hA 27 dX8_throwsIf_20 (by decide) (fun c_20 => ?_) (fun c_20 => ?_)
        · refine pr_iconst hA (0) dX8_throwsIf_27 (by decide) ?_
          exact kt c_20
        · refine pr_iconst hA (1) dX8_throwsIf_23 (by decide) ?_
          refine pr_goto hA 28 dX8_throwsIf_24 (by decide) ?_
          exact kf c_20
      · exact pr_ireturn hA rfl (pr_nb (by repeat (first | exact Or.inl rfl | exact Or.inr rfl | refine nb_ite ?_ ?_))) (Nat.zero_le _) (Nat.zero_le _) dX8_throwsIf_28 ⟨(by simp only [m_ti_r, if_pos c_4, if_pos c_8]), rfl, (by simp only [m_ti, if_pos c_4, if_pos c_8]), rfl⟩
    · refine pr_aload_n hA dX8_throwsIf_11 rfl ?_
      refine pr_iload_n hA dX8_throwsIf_12 rfl ?_
      refine pr_putE (I' := (rg_put I m 16 (pr_up σ 0 6 c))) hA f_X8_60 rfl (mo_k0 hm) (rg_up0 (by decide)) dX8_throwsIf_13 ?_
      refine pr_aload_n hA dX8_throwsIf_16 rfl ?_
      refine pr_getE (v := c) hA f_X8_60 rfl (mo_k0 hm) ((rg_val0 (by decide)).trans pr_upe) dX8_throwsIf_17 ?_
      refine pr_join (c := c = 0) (J := 28) (st := []) (0 : Int32) (1 : Int32) inferInstance (fun kt kf => ?_) ?_
      · refine pr_if_eq hA 27 dX8_throwsIf_20 (by decide) (fun c_20 => ?_) (fun c_20 => ?_)
        · refine pr_iconst hA (0) dX8_throwsIf_27 (by decide) ?_
          exact kt c_20
        · refine pr_iconst hA (1) dX8_throwsIf_23 (by decide) ?_
          refine pr_goto hA 28 dX8_throwsIf_24 (by decide) ?_
          exact kf c_20
      · exact pr_ireturn hA rfl (pr_nb (by repeat (first | exact Or.inl rfl | exact Or.inr rfl | refine nb_ite ?_ ?_))) (Nat.zero_le _) (Nat.zero_le _) dX8_throwsIf_28 ⟨(by simp only [m_ti_r, if_pos c_4, if_neg c_8]), rfl, (by simp only [m_ti, if_pos c_4, if_neg c_8]), rfl⟩

theorem fr_m_ti {σ : pr_I} {b : Int32} {c : Int32} {o : Nat} (hms : ∀ m ∈ ([0] : List Nat), o ≠ m) : m_ti σ b c o = σ o := by
  unfold m_ti
  simp only [List.mem_cons, List.not_mem_nil, or_false, forall_eq_or_imp, forall_eq] at hms
  by_cases c_4 : (σ 0 6) = 0
  · refine (congrFun (if_pos c_4) o).trans ?_
    by_cases c_8 : b = 0
    · refine (congrFun (if_pos c_8) o).trans ?_
      rfl
    · refine (congrFun (if_neg c_8) o).trans ?_
      rw [pr_up_ne (by omega)]
  · refine (congrFun (if_neg c_4) o).trans ?_
    rfl

noncomputable def m_av_r (σ : pr_I) (n : Nat) (lk : Nat) : Int32 := ((σ 1 (96 + 7 * lk + 2)) - (m_prom_r σ n (nI lk)))
set_option maxRecDepth 100000 in
set_option maxHeartbeats 400000 in
theorem c_m_av {g : pr_C} {l : Launch} (hl : l.stackTraces = false) {T : pr_T} {I : pr_I} {L : pr_L} {m : Nat} {σ : pr_I} {n : Nat} {lk : Nat} (hm : pr_Mo T m) (hn : σ 1 9 = nI n) (hn5 : n ≤ 500) (hl24 : lk < 24) : pr_M g l 4 0 0 mX8_available [.ref m, .int (nI lk)] T (rg_put I m 16 σ) L (pr_R (some (.int (m_av_r σ n lk))) T (rg_put I m 16 σ) L) pr_no := by
  refine pr_ofG (by decide) rfl hl (Nat.le_of_ble_eq_true rfl) (fun X hA hX hXn hXt => ?_)
  subst hX
  show pr_G g X mX8_available.2.2.1 _ 0 0 0 [.ref m, .int (nI lk)] [] T (rg_put I m 16 σ) L
  refine pr_aload_n hA dX8_available_0 rfl ?_
  refine pr_iload_n hA dX8_available_1 rfl ?_
  refine pr_iconst hA (2) dX8_available_2 (by decide) ?_
  refine pr_callVi hA [.int (nI lk), .int (2 : Int32)] (c_m_link (m := m) (k := lk) (c := 2) (σ := σ) (pr_hl hA) hm (by omega) (by omega)) v_X8_204 (mo_k0 hm) (by decide) rfl rfl rfl (by decide) (Nat.zero_le _) (Nat.zero_le _) rfl (Nat.le_of_ble_eq_true rfl) dX8_available_3 ?_
  refine pr_aload_n hA dX8_available_6 rfl ?_
  refine pr_iload_n hA dX8_available_7 rfl ?_
  refine pr_callVi hA [.int (nI lk)] (c_m_prom (m := m) (σ := σ) (n := n) (x := (nI lk)) (pr_hl hA) hm hn (by omega)) v_X8_206 (mo_k0 hm) (by decide) rfl rfl rfl (by decide) (Nat.zero_le _) (Nat.zero_le _) rfl (Nat.le_of_ble_eq_true rfl) dX8_available_8 ?_
  refine pr_isub hA dX8_available_11 ?_
  exact pr_ireturn hA rfl rfl (Nat.zero_le _) (Nat.zero_le _) dX8_available_12 ⟨rfl, rfl, rfl, rfl⟩

noncomputable def m_ax_r (σ : pr_I) (n : Nat) (x : Int32) : Int32 := ((σ 1 (96 + 7 * x.toNatClampNeg + 2)) - (m_prom_r σ n x))
set_option maxRecDepth 100000 in
set_option maxHeartbeats 400000 in
theorem c_m_ax {g : pr_C} {l : Launch} (hl : l.stackTraces = false) {T : pr_T} {I : pr_I} {L : pr_L} {m : Nat} {σ : pr_I} {n : Nat} {x : Int32} (hm : pr_Mo T m) (hn : σ 1 9 = nI n) (hn5 : n ≤ 500) (hx : vp_in x 24) : pr_M g l 4 0 0 mX8_available [.ref m, .int x] T (rg_put I m 16 σ) L (pr_R (some (.int (m_ax_r σ n x))) T (rg_put I m 16 σ) L) pr_no := by
  refine pr_ofG (by decide) rfl hl (Nat.le_of_ble_eq_true rfl) (fun X hA hX hXn hXt => ?_)
  subst hX
  show pr_G g X mX8_available.2.2.1 _ 0 0 0 [.ref m, .int x] [] T (rg_put I m 16 σ) L
  refine pr_aload_n hA dX8_available_0 rfl ?_
  refine pr_iload_n hA dX8_available_1 rfl ?_
  refine pr_iconst hA (2) dX8_available_2 (by decide) ?_
  refine pr_callVi hA [.int x, .int (2 : Int32)] (c_m_linkx (m := m) (x := x) (c := 2) (σ := σ) (pr_hl hA) hm (by assumption) (by omega)) v_X8_204 (mo_k0 hm) (by decide) rfl rfl rfl (by decide) (Nat.zero_le _) (Nat.zero_le _) rfl (Nat.le_of_ble_eq_true rfl) dX8_available_3 ?_
  refine pr_aload_n hA dX8_available_6 rfl ?_
  refine pr_iload_n hA dX8_available_7 rfl ?_
  refine pr_callVi hA [.int x] (c_m_prom (m := m) (σ := σ) (n := n) (x := x) (pr_hl hA) hm hn (by omega)) v_X8_206 (mo_k0 hm) (by decide) rfl rfl rfl (by decide) (Nat.zero_le _) (Nat.zero_le _) rfl (Nat.le_of_ble_eq_true rfl) dX8_available_8 ?_
  refine pr_isub hA dX8_available_11 ?_
  exact pr_ireturn hA rfl rfl (Nat.zero_le _) (Nat.zero_le _) dX8_available_12 ⟨rfl, rfl, rfl, rfl⟩

noncomputable def m_up_it4 (σ : pr_I) (nl : Nat) : Nat → Int32
  | 0 => (0 : Int32)
  | k + 1 => ((m_up_it4 σ nl k) ||| ((σ 1 (96 + 7 * k + 5)) <<< ((nI k) &&& 31)))
noncomputable def m_up_r (σ : pr_I) (nl : Nat) : Int32 := (m_up_it4 σ nl nl)
set_option maxRecDepth 100000 in
set_option maxHeartbeats 400000 in
theorem c_m_up {g : pr_C} {l : Launch} (hl : l.stackTraces = false) {T : pr_T} {I : pr_I} {L : pr_L} {m : Nat} {σ : pr_I} {nl : Nat} (hm : pr_Mo T m) (hnl : σ 1 7 = nI nl) (hnl24 : nl ≤ 24) : pr_M g l 3 0 0 mX8_upLinks [.ref m] T (rg_put I m 16 σ) L (pr_R (some (.int (m_up_r σ nl))) T (rg_put I m 16 σ) L) pr_no := by
  refine pr_ofG (by decide) rfl hl (Nat.le_of_ble_eq_true rfl) (fun X hA hX hXn hXt => ?_)
  subst hX
  show pr_G g X mX8_upLinks.2.2.1 _ 0 0 0 [.ref m, .null, .null] [] T (rg_put I m 16 σ) L
  refine pr_iconst hA (0) dX8_upLinks_0 (by decide) ?_
  refine pr_istore_n (ls' := [_, _, _]) hA dX8_upLinks_1 (by decide) rfl ?_
  refine pr_iconst hA (nI 0) dX8_upLinks_2 (by decide) ?_
  refine pr_istore_n (ls' := [_, _, _]) hA dX8_upLinks_3 (by decide) rfl ?_
  have lp4 : ∀ (j k : Nat), nl - k = j → k ≤ nl → pr_G g X mX8_upLinks.2.2.1 (pr_MQ g X (pr_R (some (.int (m_up_r σ nl))) T (rg_put I m 16 σ) L) pr_no 0 0) 0 0 4 [.ref m, .int (m_up_it4 σ nl k), .int (nI k)] [] T (rg_put I m 16 σ) L := by
    intro j
    induction j using Nat.strongRecOn with | ind j ih4 =>
    intro k hj4 hk4
    refine pr_iload_n hA dX8_upLinks_4 rfl ?_
    refine pr_aload_n hA dX8_upLinks_5 rfl ?_
    refine pr_getR hA f_X8_9 rfl (mo_k0 hm) (mo_f0_0 hm) dX8_upLinks_6 ?_
    refine pr_bipush hA (nI 7) dX8_upLinks_9 (by decide) ?_
    refine pr_ialdM (v := (nI nl)) hA (mo_k1 hm) (by omega) (by omega) ((rg_val (by decide)).trans hnl) dX8_upLinks_11 ?_
    refine pr_icmp_ge hA 32 dX8_upLinks_12 (by decide) (fun c_12 => ?_) (fun c_12 => ?_)
    · have n_12 : nl ≤ k := (nI_leI (by omega) (by omega)).mp c_12
      have hex : nl = k := by omega
      subst hex
      refine pr_iload_n hA dX8_upLinks_32 rfl ?_
      exact pr_ireturn hA rfl rfl (Nat.zero_le _) (Nat.zero_le _) dX8_upLinks_33 ⟨rfl, rfl, rfl, rfl⟩
    · have n_12 : ¬ nl ≤ k := fun q => c_12 ((nI_leI (by omega) (by omega)).mpr q)
      refine pr_iload_n hA dX8_upLinks_15 rfl ?_
      refine pr_aload_n hA dX8_upLinks_16 rfl ?_
      refine pr_iload_n hA dX8_upLinks_17 rfl ?_
      refine pr_iconst hA (5) dX8_upLinks_18 (by decide) ?_
      refine pr_callVi hA [.int (nI k), .int (5 : Int32)] (c_m_link (m := m) (k := k) (c := 5) (σ := σ) (pr_hl hA) hm (by omega) (by omega)) v_X8_204 (mo_k0 hm) (by decide) rfl rfl rfl (by decide) (Nat.zero_le _) (Nat.zero_le _) rfl (Nat.le_of_ble_eq_true rfl) dX8_upLinks_19 ?_
      refine pr_iload_n hA dX8_upLinks_22 rfl ?_
      refine pr_ishl hA dX8_upLinks_23 ?_
      refine pr_ior hA dX8_upLinks_24 ?_
      refine pr_istore_n (ls' := [_, _, _]) hA dX8_upLinks_25 (by decide) rfl ?_
      refine pr_iinc (ls' := [_, _, _]) hA (nI (k + 1)) dX8_upLinks_26 (by decide) rfl (nI_inc _) rfl ?_
      refine pr_goto hA 4 dX8_upLinks_29 (by decide) ?_
      have hb := ih4 (nl - (k + 1)) (by omega) (k + 1) rfl (by omega)
      simp only [m_up_it4] at hb
      exact hb
  exact (lp4 (nl - 0) 0 rfl (by omega))

noncomputable def m_lw_it4 (σ : pr_I) (n : Nat) (nl : Nat) (u : Int32) : Nat → Int32
  | 0 => (0 : Int32)
  | k + 1 => ((m_lw_it4 σ n nl u k) ||| (if (σ 1 (96 + 7 * k + 5)) = (1 : Int32) then (if (m_av_r σ n k) < u then (0 : Int32) else ((1 : Int32) <<< ((nI k) &&& 31))) else (0 : Int32)))
noncomputable def m_lw_r (σ : pr_I) (n : Nat) (nl : Nat) (u : Int32) : Int32 := (m_lw_it4 σ n nl u nl)
set_option maxRecDepth 100000 in
set_option maxHeartbeats 400000 in
theorem c_m_lw {g : pr_C} {l : Launch} (hl : l.stackTraces = false) {T : pr_T} {I : pr_I} {L : pr_L} {m : Nat} {σ : pr_I} {n : Nat} {nl : Nat} {u : Int32} (hm : pr_Mo T m) (hn : σ 1 9 = nI n) (hn5 : n ≤ 500) (hnl : σ 1 7 = nI nl) (hnl24 : nl ≤ 24) : pr_M g l 6 0 0 mX8_linksWith [.ref m, .int u] T (rg_put I m 16 σ) L (pr_R (some (.int (m_lw_r σ n nl u))) T (rg_put I m 16 σ) L) pr_no := by
  refine pr_ofG (by decide) rfl hl (Nat.le_of_ble_eq_true rfl) (fun X hA hX hXn hXt => ?_)
  subst hX
  show pr_G g X mX8_linksWith.2.2.1 _ 0 0 0 [.ref m, .int u, .null, .null] [] T (rg_put I m 16 σ) L
  refine pr_iconst hA (0) dX8_linksWith_0 (by decide) ?_
  refine pr_istore_n (ls' := [_, _, _, _]) hA dX8_linksWith_1 (by decide) rfl ?_
  refine pr_iconst hA (nI 0) dX8_linksWith_2 (by decide) ?_
  refine pr_istore_n (ls' := [_, _, _, _]) hA dX8_linksWith_3 (by decide) rfl ?_
  have lp4 : ∀ (j k : Nat), nl - k = j → k ≤ nl → pr_G g X mX8_linksWith.2.2.1 (pr_MQ g X (pr_R (some (.int (m_lw_r σ n nl u))) T (rg_put I m 16 σ) L) pr_no 0 0) 0 0 4 [.ref m, .int u, .int (m_lw_it4 σ n nl u k), .int (nI k)] [] T (rg_put I m 16 σ) L := by
    intro j
    induction j using Nat.strongRecOn with | ind j ih4 =>
    intro k hj4 hk4
    refine pr_iload_n hA dX8_linksWith_4 rfl ?_
    refine pr_aload_n hA dX8_linksWith_5 rfl ?_
    refine pr_getR hA f_X8_9 rfl (mo_k0 hm) (mo_f0_0 hm) dX8_linksWith_6 ?_
    refine pr_bipush hA (nI 7) dX8_linksWith_9 (by decide) ?_
    refine pr_ialdM (v := (nI nl)) hA (mo_k1 hm) (by omega) (by omega) ((rg_val (by decide)).trans hnl) dX8_linksWith_11 ?_
    refine pr_icmp_ge hA 50 dX8_linksWith_12 (by decide) (fun c_12 => ?_) (fun c_12 => ?_)
    · have n_12 : nl ≤ k := (nI_leI (by omega) (by omega)).mp c_12
      have hex : nl = k := by omega
      subst hex
      refine pr_iload_n hA dX8_linksWith_50 rfl ?_
      exact pr_ireturn hA rfl rfl (Nat.zero_le _) (Nat.zero_le _) dX8_linksWith_51 ⟨rfl, rfl, rfl, rfl⟩
    · have n_12 : ¬ nl ≤ k := fun q => c_12 ((nI_leI (by omega) (by omega)).mpr q)
      refine pr_iload_n hA dX8_linksWith_15 rfl ?_
      refine pr_aload_n hA dX8_linksWith_16 rfl ?_
      refine pr_iload_n hA dX8_linksWith_17 rfl ?_
      refine pr_iconst hA (5) dX8_linksWith_18 (by decide) ?_
      refine pr_callVi hA [.int (nI k), .int (5 : Int32)] (c_m_link (m := m) (k := k) (c := 5) (σ := σ) (pr_hl hA) hm (by omega) (by omega)) v_X8_204 (mo_k0 hm) (by decide) rfl rfl rfl (by decide) (Nat.zero_le _) (Nat.zero_le _) rfl (Nat.le_of_ble_eq_true rfl) dX8_linksWith_19 ?_
      refine pr_iconst hA (1) dX8_linksWith_22 (by decide) ?_
      refine pr_join (c := (σ 1 (96 + 7 * k + 5)) = (1 : Int32)) (J := 42) (st := [.int (m_lw_it4 σ n nl u k)]) (if (m_av_r σ n k) < u then (0 : Int32) else ((1 : Int32) <<< ((nI k) &&& 31))) (0 : Int32) inferInstance (fun kt kf => ?_) ?_
      · refine pr_icmp_ne hA 41 dX8_linksWith_23 (by decide) (fun c_23 => ?_) (fun c_23 => ?_)
        · refine pr_iconst hA (0) dX8_linksWith_41 (by decide) ?_
          exact kf c_23
        · refine pr_aload_n hA dX8_linksWith_26 rfl ?_
          refine pr_iload_n hA dX8_linksWith_27 rfl ?_
          refine pr_callVi hA [.int (nI k)] (c_m_av (m := m) (σ := σ) (n := n) (lk := k) (pr_hl hA) hm hn (by omega) (by omega)) v_X8_209 (mo_k0 hm) (by decide) rfl rfl rfl (by decide) (Nat.zero_le _) (Nat.zero_le _) rfl (Nat.le_of_ble_eq_true rfl) dX8_linksWith_28 ?_
          refine pr_iload_n hA dX8_linksWith_31 rfl ?_
          refine pr_join (c := (m_av_r σ n k) < u) (J := 42) (st := [.int (m_lw_it4 σ n nl u k)]) (0 : Int32) ((1 : Int32) <<< ((nI k) &&& 31)) inferInstance (fun kt kf => ?_) ?_
          · refine pr_icmp_lt hA 41 dX8_linksWith_32 (by decide) (fun c_32 => ?_) (fun c_32 => ?_)
            · refine pr_iconst hA (0) dX8_linksWith_41 (by decide) ?_
              exact kt c_32
            · refine pr_iconst hA (1) dX8_linksWith_35 (by decide) ?_
              refine pr_iload_n hA dX8_linksWith_36 rfl ?_
              refine pr_ishl hA dX8_linksWith_37 ?_
              refine pr_goto hA 42 dX8_linksWith_38 (by decide) ?_
              exact kf c_32
          · exact kt c_23
      · refine pr_ior hA dX8_linksWith_42 ?_
        refine pr_istore_n (ls' := [_, _, _, _]) hA dX8_linksWith_43 (by decide) rfl ?_
        refine pr_iinc (ls' := [_, _, _, _]) hA (nI (k + 1)) dX8_linksWith_44 (by decide) rfl (nI_inc _) rfl ?_
        refine pr_goto hA 4 dX8_linksWith_47 (by decide) ?_
        have hb := ih4 (nl - (k + 1)) (by omega) (k + 1) rfl (by omega)
        simp only [m_lw_it4] at hb
        exact hb
  exact (lp4 (nl - 0) 0 rfl (by omega))

theorem cpr_step {f h : Nat → Int32} {I : pr_I} {b k : Nat} : pr_up (pr_row I b (cp_row f h k)) b k (f k) = pr_row I b (cp_row f h (k + 1)) := by
  funext a j
  unfold pr_up pr_row cp_row
  by_cases ha : a = b
  · subst ha
    by_cases hj : j = k
    · subst hj; simp
    · have : (j < k + 1) ↔ (j < k) := by omega
      simp [hj, this]
  · simp [ha]
theorem cpr_zero {f h : Nat → Int32} : cp_row f h 0 = h := by funext j; simp [cp_row]
set_option maxRecDepth 100000 in
set_option maxHeartbeats 400000 in
theorem c_copies {g : pr_C} {l : Launch} (hl : l.stackTraces = false) {T : pr_T} {I : pr_I} {L : pr_L} {a b : Nat} (ha : T.2.1 a = (20, 5384)) (hb : T.2.1 b = (20, 5384)) (hab : a ≠ b) : pr_M g l 1 0 0 mX8_copies [.ref a, .ref b] T I L (pr_R none T (pr_row I b (cp_row (I a) (I b) 5384)) L) pr_no := by
  refine pr_ofG (by decide) rfl hl (Nat.le_of_ble_eq_true rfl) (fun X hA hX hXn hXt => ?_)
  subst hX
  show pr_G g X mX8_copies.2.2.1 _ 0 0 0 [.ref a, .ref b, .null] [] T I L
  refine pr_iconst hA (nI 0) dX8_copies_0 (by decide) ?_
  refine pr_istore_n (ls' := [_, _, _]) hA dX8_copies_1 (by decide) rfl ?_
  have lp2 : ∀ (j k : Nat), 5384 - k = j → k ≤ 5384 → pr_G g X mX8_copies.2.2.1 (pr_MQ g X (pr_R none T (pr_row I b (cp_row (I a) (I b) 5384)) L) pr_no 0 0) 0 0 2 [.ref a, .ref b, .int (nI k)] [] T (pr_row I b (cp_row (I a) (I b) k)) L := by
    intro j
    induction j using Nat.strongRecOn with | ind j ih =>
    intro k hj hkn
    refine pr_iload_n hA dX8_copies_2 rfl ?_
    refine pr_sipush hA (nI 5384) dX8_copies_3 (by decide) ?_
    refine pr_icmp_ge hA 21 dX8_copies_6 (by decide) (fun c_6 => ?_) (fun c_6 => ?_)
    · have n_6 : 5384 ≤ k := (nI_leI (by omega) (by omega)).mp c_6
      have e : k = 5384 := by omega
      subst e
      exact pr_return hA rfl (Nat.zero_le _) (Nat.zero_le _) dX8_copies_21 ⟨rfl, rfl, rfl, rfl⟩
    · have n_6 : ¬ 5384 ≤ k := fun q => c_6 ((nI_leI (by omega) (by omega)).mpr q)
      refine pr_aload_n hA dX8_copies_9 rfl ?_
      refine pr_iload_n hA dX8_copies_10 rfl ?_
      refine pr_aload_n hA dX8_copies_11 rfl ?_
      refine pr_iload_n hA dX8_copies_12 rfl ?_
      refine pr_ialdM (v := (I a k)) hA ha (by omega) (by omega) (pr_rwv hab) dX8_copies_13 ?_
      refine pr_iastM (I' := (pr_row I b (cp_row (I a) (I b) (k + 1)))) hA hb (by omega) (by omega) cpr_step dX8_copies_14 ?_
      refine pr_iinc (ls' := [_, _, _]) hA (nI (k + 1)) dX8_copies_15 (by decide) rfl (nI_inc _) rfl ?_
      refine pr_goto hA 2 dX8_copies_18 (by decide) ?_
      exact ih (5384 - (k + 1)) (by omega) (k + 1) rfl (by omega)
  exact (by have h0 := lp2 5384 0 rfl (by omega); rw [cpr_zero, pr_row_self] at h0; exact h0)

theorem c_copiesE {g : pr_C} {l : Launch} (hl : l.stackTraces = false) {T : pr_T} {I I' : pr_I} {L : pr_L} {a b : Nat} {f h : Nat → Int32} (ha : T.2.1 a = (20, 5384)) (hb : T.2.1 b = (20, 5384)) (hab : a ≠ b) (hf : I a = f) (hh : I b = h) (hu : pr_row I b (cp_row f h 5384) = I') : pr_M g l 1 0 0 mX8_copies [.ref a, .ref b] T I L (pr_R none T I' L) pr_no := by
  subst hf; subst hh; subst hu; exact c_copies hl ha hb hab
def bg_row (h : Nat → Int32) : Nat → Int32 := fun j => if j = 5 then 80 else if j = 4 then 50 else if j = 3 then 3 else if j = 2 then 5 else if j = 1 then 20 else if j < 5384 then 0 else h j
theorem bg_eq {I : pr_I} {a : Nat} : pr_up (pr_up (pr_up (pr_up (pr_up (pr_row I a (fl_row 0 (I a) 5384)) a 1 20) a 2 5) a 3 3) a 4 50) a 5 80 = pr_row I a (bg_row (I a)) := by
  funext b j
  unfold pr_up pr_row fl_row bg_row
  by_cases hb : b = a
  · subst hb
    simp only [true_and, if_true]
  · simp [hb]
set_option maxRecDepth 100000 in
set_option maxHeartbeats 400000 in
theorem c_begins {g : pr_C} {l : Launch} (hl : l.stackTraces = false) {T : pr_T} {I : pr_I} {L : pr_L} {a : Nat} (ha : T.2.1 a = (20, 5384)) : pr_M g l 1 0 0 mX8_begins [.ref a] T I L (pr_R none T (pr_row I a (bg_row (I a))) L) pr_no := by
  refine pr_ofG (by decide) rfl hl (Nat.le_of_ble_eq_true rfl) (fun X hA hX hXn hXt => ?_)
  subst hX
  show pr_G g X mX8_begins.2.2.1 _ 0 0 0 [.ref a, .null] [] T I L
  refine pr_iconst hA (nI 0) dX8_begins_0 (by decide) ?_
  refine pr_istore_n (ls' := [_, _]) hA dX8_begins_1 (by decide) rfl ?_
  have lp2 : ∀ (j k : Nat), 5384 - k = j → k ≤ 5384 → pr_G g X mX8_begins.2.2.1 (pr_MQ g X (pr_R none T (pr_row I a (bg_row (I a))) L) pr_no 0 0) 0 0 2 [.ref a, .int (nI k)] [] T (pr_row I a (fl_row 0 (I a) k)) L := by
    intro j
    induction j using Nat.strongRecOn with | ind j ih =>
    intro k hj hkn
    refine pr_iload_n hA dX8_begins_2 rfl ?_
    refine pr_sipush hA (nI 5384) dX8_begins_3 (by decide) ?_
    refine pr_icmp_ge hA 19 dX8_begins_6 (by decide) (fun c_6 => ?_) (fun c_6 => ?_)
    · have n_6 : 5384 ≤ k := (nI_leI (by omega) (by omega)).mp c_6
      have e : k = 5384 := by omega
      subst e
      refine pr_aload_n hA dX8_begins_19 rfl ?_
      refine pr_iconst hA (nI 1) dX8_begins_20 (by decide) ?_
      refine pr_bipush hA (20) dX8_begins_21 (by decide) ?_
      refine pr_iastM (I' := (pr_up (pr_row I a (fl_row 0 (I a) 5384)) a 1 (20 : Int32))) hA ha (by omega) (by omega) rfl dX8_begins_23 ?_
      refine pr_aload_n hA dX8_begins_24 rfl ?_
      refine pr_iconst hA (nI 2) dX8_begins_25 (by decide) ?_
      refine pr_iconst hA (5) dX8_begins_26 (by decide) ?_
      refine pr_iastM (I' := (pr_up (pr_up (pr_row I a (fl_row 0 (I a) 5384)) a 1 (20 : Int32)) a 2 (5 : Int32))) hA ha (by omega) (by omega) rfl dX8_begins_27 ?_
      refine pr_aload_n hA dX8_begins_28 rfl ?_
      refine pr_iconst hA (nI 3) dX8_begins_29 (by decide) ?_
      refine pr_iconst hA (3) dX8_begins_30 (by decide) ?_
      refine pr_iastM (I' := (pr_up (pr_up (pr_up (pr_row I a (fl_row 0 (I a) 5384)) a 1 (20 : Int32)) a 2 (5 : Int32)) a 3 (3 : Int32))) hA ha (by omega) (by omega) rfl dX8_begins_31 ?_
      refine pr_aload_n hA dX8_begins_32 rfl ?_
      refine pr_iconst hA (nI 4) dX8_begins_33 (by decide) ?_
      refine pr_bipush hA (50) dX8_begins_34 (by decide) ?_
      refine pr_iastM (I' := (pr_up (pr_up (pr_up (pr_up (pr_row I a (fl_row 0 (I a) 5384)) a 1 (20 : Int32)) a 2 (5 : Int32)) a 3 (3 : Int32)) a 4 (50 : Int32))) hA ha (by omega) (by omega) rfl dX8_begins_36 ?_
      refine pr_aload_n hA dX8_begins_37 rfl ?_
      refine pr_iconst hA (nI 5) dX8_begins_38 (by decide) ?_
      refine pr_bipush hA (80) dX8_begins_39 (by decide) ?_
      refine pr_iastM (I' := (pr_up (pr_up (pr_up (pr_up (pr_up (pr_row I a (fl_row 0 (I a) 5384)) a 1 (20 : Int32)) a 2 (5 : Int32)) a 3 (3 : Int32)) a 4 (50 : Int32)) a 5 (80 : Int32))) hA ha (by omega) (by omega) rfl dX8_begins_41 ?_
      exact pr_return hA rfl (Nat.zero_le _) (Nat.zero_le _) dX8_begins_42 ⟨rfl, rfl, bg_eq, rfl⟩
    · have n_6 : ¬ 5384 ≤ k := fun q => c_6 ((nI_leI (by omega) (by omega)).mpr q)
      refine pr_aload_n hA dX8_begins_9 rfl ?_
      refine pr_iload_n hA dX8_begins_10 rfl ?_
      refine pr_iconst hA (0) dX8_begins_11 (by decide) ?_
      refine pr_iastM (I' := (pr_row I a (fl_row 0 (I a) (k + 1)))) hA ha (by omega) (by omega) fl_step dX8_begins_12 ?_
      refine pr_iinc (ls' := [_, _]) hA (nI (k + 1)) dX8_begins_13 (by decide) rfl (nI_inc _) rfl ?_
      refine pr_goto hA 2 dX8_begins_16 (by decide) ?_
      exact ih (5384 - (k + 1)) (by omega) (k + 1) rfl (by omega)
  exact (by have h0 := lp2 5384 0 rfl (by omega); rw [fl_zero, pr_row_self] at h0; exact h0)

