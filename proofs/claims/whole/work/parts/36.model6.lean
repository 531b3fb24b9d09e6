noncomputable def m_sh_r (σ : pr_I) (lk : Nat) : Int32 := (if (σ 8 ((σ 1 (96 + 7 * lk + 1)).toNatClampNeg)) = (1000000000 : Int32) then (0 : Int32) else (if ((σ 8 ((σ 1 (96 + 7 * lk + 1)).toNatClampNeg)) + (σ 1 (96 + 7 * lk + 3))) < (σ 8 ((σ 1 (96 + 7 * lk + 0)).toNatClampNeg)) then (1 : Int32) else (if ((σ 8 ((σ 1 (96 + 7 * lk + 1)).toNatClampNeg)) + (σ 1 (96 + 7 * lk + 3))) = (σ 8 ((σ 1 (96 + 7 * lk + 0)).toNatClampNeg)) then (if (σ 9 ((σ 1 (96 + 7 * lk + 0)).toNatClampNeg)) ≤ ((σ 9 ((σ 1 (96 + 7 * lk + 1)).toNatClampNeg)) + (1 : Int32)) then (0 : Int32) else (1 : Int32)) else (0 : Int32))))
set_option maxRecDepth 100000 in
set_option maxHeartbeats 400000 in
theorem c_m_sh {g : pr_C} {l : Launch} (hl : l.stackTraces = false) {T : pr_T} {I : pr_I} {L : pr_L} {m : Nat} {σ : pr_I} {lk : Nat} (hm : pr_Mo T m) (hI : mI σ) (hk : lk < 24) : pr_M g l 2 0 0 mX8_isShorter [.ref m, .int (nI lk)] T (rg_put I m 16 σ) L (pr_R (some (.int (m_sh_r σ lk))) T (rg_put I m 16 σ) L) pr_no := by
  refine pr_ofG (by decide) rfl hl (Nat.le_of_ble_eq_true rfl) (fun X hA hX hXn hXt => ?_)
  subst hX
  show pr_G g X mX8_isShorter.2.2.1 _ 0 0 0 [.ref m, .int (nI lk), .null, .null, .null] [] T (rg_put I m 16 σ) L
  have hn5 := mI_n5 hI
  have hr4 := mI_nr4 hI
  have hl24 := mI_nl24 hI
  have hn12 := mI_nn12 hI
  have hf0 : vp_in (σ 1 (96 + 7 * lk + 0)) 12 := (mI_link hI (k := lk) (c := 0) hk (by decide) rfl)
  have ht0 : vp_in (σ 1 (96 + 7 * lk + 1)) 12 := (mI_link hI (k := lk) (c := 1) hk (by decide) rfl)
  refine pr_aload_n hA dX8_isShorter_0 rfl ?_
  refine pr_iload_n hA dX8_isShorter_1 rfl ?_
  refine pr_iconst hA (0) dX8_isShorter_2 (by decide) ?_
  refine pr_callVi hA [.int (nI lk), .int (0 : Int32)] (c_m_link (m := m) (k := lk) (c := 0) (σ := σ) (pr_hl hA) hm (by omega) (by omega)) v_X8_204 (mo_k0 hm) (by decide) rfl rfl rfl (by decide) (Nat.zero_le _) (Nat.zero_le _) rfl (Nat.le_of_ble_eq_true rfl) dX8_isShorter_3 ?_
  refine pr_istore_n (ls' := [_, _, _, _, _]) hA dX8_isShorter_6 (by decide) rfl ?_
  refine pr_aload_n hA dX8_isShorter_7 rfl ?_
  refine pr_iload_n hA dX8_isShorter_8 rfl ?_
  refine pr_iconst hA (1) dX8_isShorter_9 (by decide) ?_
  refine pr_callVi hA [.int (nI lk), .int (1 : Int32)] (c_m_link (m := m) (k := lk) (c := 1) (σ := σ) (pr_hl hA) hm (by omega) (by omega)) v_X8_204 (mo_k0 hm) (by decide) rfl rfl rfl (by decide) (Nat.zero_le _) (Nat.zero_le _) rfl (Nat.le_of_ble_eq_true rfl) dX8_isShorter_10 ?_
  refine pr_istore_n (ls' := [_, _, _, _, _]) hA dX8_isShorter_13 (by decide) rfl ?_
  refine pr_aload_n hA dX8_isShorter_14 rfl ?_
  refine pr_getR hA f_X8_32 rfl (mo_k0 hm) (mo_f0_14 hm) dX8_isShorter_15 ?_
  refine pr_iload_n hA dX8_isShorter_18 rfl ?_
  refine pr_ialdE (v := (σ 8 ((σ 1 (96 + 7 * lk + 1)).toNatClampNeg))) hA (mo_k8 hm) (by assumption) (rg_val (by decide)) dX8_isShorter_19 ?_
  refine pr_ldc hA kK_X8_212 dX8_isShorter_20 ?_
  refine pr_icmp_ne hA 27 dX8_isShorter_22 (by decide) (fun c_22 => ?_) (fun c_22 => ?_)
  · refine pr_aload_n hA dX8_isShorter_27 rfl ?_
    refine pr_getR hA f_X8_32 rfl (mo_k0 hm) (mo_f0_14 hm) dX8_isShorter_28 ?_
    refine pr_iload_n hA dX8_isShorter_31 rfl ?_
    refine pr_ialdE (v := (σ 8 ((σ 1 (96 + 7 * lk + 1)).toNatClampNeg))) hA (mo_k8 hm) (by assumption) (rg_val (by decide)) dX8_isShorter_32 ?_
    refine pr_aload_n hA dX8_isShorter_33 rfl ?_
    refine pr_iload_n hA dX8_isShorter_34 rfl ?_
    refine pr_iconst hA (3) dX8_isShorter_35 (by decide) ?_
    refine pr_callVi hA [.int (nI lk), .int (3 : Int32)] (c_m_link (m := m) (k := lk) (c := 3) (σ := σ) (pr_hl hA) hm (by omega) (by omega)) v_X8_204 (mo_k0 hm) (by decide) rfl rfl rfl (by decide) (Nat.zero_le _) (Nat.zero_le _) rfl (Nat.le_of_ble_eq_true rfl) dX8_isShorter_36 ?_
    refine pr_iadd hA dX8_isShorter_39 ?_
    refine pr_istore (ls' := [_, _, _, _, _]) hA dX8_isShorter_40 (by decide) rfl ?_
    refine pr_iload hA dX8_isShorter_42 rfl ?_
    refine pr_aload_n hA dX8_isShorter_44 rfl ?_
    refine pr_getR hA f_X8_32 rfl (mo_k0 hm) (mo_f0_14 hm) dX8_isShorter_45 ?_
    refine pr_iload_n hA dX8_isShorter_48 rfl ?_
    refine pr_ialdE (v := (σ 8 ((σ 1 (96 + 7 * lk + 0)).toNatClampNeg))) hA (mo_k8 hm) (by assumption) (rg_val (by decide)) dX8_isShorter_49 ?_
    refine pr_join (c := ((σ 8 ((σ 1 (96 + 7 * lk + 1)).toNatClampNeg)) + (σ 1 (96 + 7 * lk + 3))) < (σ 8 ((σ 1 (96 + 7 * lk + 0)).toNatClampNeg))) (J := 86) (st := []) (1 : Int32) (if ((σ 8 ((σ 1 (96 + 7 * lk + 1)).toNatClampNeg)) + (σ 1 (96 + 7 * lk + 3))) = (σ 8 ((σ 1 (96 + 7 * lk + 0)).toNatClampNeg)) then (if (σ 9 ((σ 1 (96 + 7 * lk + 0)).toNatClampNeg)) ≤ ((σ 9 ((σ 1 (96 + 7 * lk + 1)).toNatClampNeg)) + (1 : Int32)) then (0 : Int32) else (1 : Int32)) else (0 : Int32)) inferInstance (fun kt kf => ?_) ?_
    · refine pr_icmp_lt hA 81 dX8_isShorter_50 (by decide) (fun c_50 => ?_) (fun c_50 => ?_)
      · refine pr_iconst hA (1) dX8_isShorter_81 (by decide) ?_
        refine pr_goto hA 86 dX8_isShorter_82 (by decide) ?_
        exact kt c_50
      · refine pr_iload hA dX8_isShorter_53 rfl ?_
        refine pr_aload_n hA dX8_isShorter_55 rfl ?_
        refine pr_getR hA f_X8_32 rfl (mo_k0 hm) (mo_f0_14 hm) dX8_isShorter_56 ?_
        refine pr_iload_n hA dX8_isShorter_59 rfl ?_
        refine pr_ialdE (v := (σ 8 ((σ 1 (96 + 7 * lk + 0)).toNatClampNeg))) hA (mo_k8 hm) (by assumption) (rg_val (by decide)) dX8_isShorter_60 ?_
        refine pr_join (c := ((σ 8 ((σ 1 (96 + 7 * lk + 1)).toNatClampNeg)) + (σ 1 (96 + 7 * lk + 3))) = (σ 8 ((σ 1 (96 + 7 * lk + 0)).toNatClampNeg))) (J := 86) (st := []) (if (σ 9 ((σ 1 (96 + 7 * lk + 0)).toNatClampNeg)) ≤ ((σ 9 ((σ 1 (96 + 7 * lk + 1)).toNatClampNeg)) + (1 : Int32)) then (0 : Int32) else (1 : Int32)) (0 : Int32) inferInstance (fun kt kf => ?_) ?_
        · refine pr_icmp_ne hA 85 dX8_isShorter_61 (by decide) (fun c_61 => ?_) (fun c_61 => ?_)
          · refine pr_iconst hA (0) dX8_isShorter_85 (by decide) ?_
            exact kf c_61
          · refine pr_aload_n hA dX8_isShorter_64 rfl ?_
            refine pr_getR hA f_X8_35 rfl (mo_k0 hm) (mo_f0_15 hm) dX8_isShorter_65 ?_
            refine pr_iload_n hA dX8_isShorter_68 rfl ?_
            refine pr_ialdE (v := (σ 9 ((σ 1 (96 + 7 * lk + 1)).toNatClampNeg))) hA (mo_k9 hm) (by assumption) (rg_val (by decide)) dX8_isShorter_69 ?_
            refine pr_iconst hA (1) dX8_isShorter_70 (by decide) ?_
            refine pr_iadd hA dX8_isShorter_71 ?_
            refine pr_aload_n hA dX8_isShorter_72 rfl ?_
            refine pr_getR hA f_X8_35 rfl (mo_k0 hm) (mo_f0_15 hm) dX8_isShorter_73 ?_
            refine pr_iload_n hA dX8_isShorter_76 rfl ?_
            refine pr_ialdE (v := (σ 9 ((σ 1 (96 + 7 * lk + 0)).toNatClampNeg))) hA (mo_k9 hm) (by assumption) (rg_val (by decide)) dX8_isShorter_77 ?_
            refine pr_join (c := (σ 9 ((σ 1 (96 + 7 * lk + 0)).toNatClampNeg)) ≤ ((σ 9 ((σ 1 (96 + 7 * lk + 1)).toNatClampNeg)) + (1 : Int32))) (J := 86) (st := []) (0 : Int32) (1 : Int32) inferInstance (fun kt kf => ?_) ?_
            · refine pr_icmp_ge hA 85 dX8_isShorter_78 (by decide) (fun c_78 => ?_) (fun c_78 => ?_)
              · refine pr_iconst hA (0) dX8_isShorter_85 (by decide) ?_
                exact kt c_78
              · refine pr_iconst hA (1) dX8_isShorter_81 (by decide) ?_
                refine pr_goto hA 86 dX8_isShorter_82 (by decide) ?_
                exact kf c_78
            · exact kt c_61
        · exact kf c_50
    · exact pr_ireturn hA rfl (pr_nb (by repeat (first | exact Or.inl rfl | exact Or.inr rfl | refine nb_ite ?_ ?_))) (Nat.zero_le _) (Nat.zero_le _) dX8_isShorter_86 ⟨(by simp only [m_sh_r, if_neg c_22]), rfl, rfl, rfl⟩
  · refine pr_iconst hA (0) dX8_isShorter_25 (by decide) ?_
    exact pr_ireturn hA rfl (pr_nb (by repeat (first | exact Or.inl rfl | exact Or.inr rfl | refine nb_ite ?_ ?_))) (Nat.zero_le _) (Nat.zero_le _) dX8_isShorter_26 ⟨(by simp only [m_sh_r, if_pos c_22]), rfl, rfl, rfl⟩

noncomputable def m_on_r (σ : pr_I) (lk : Nat) (x : Int32) : Int32 := (if (σ 1 (96 + 7 * lk + 0)) = x then (if (σ 8 ((σ 1 (96 + 7 * lk + 1)).toNatClampNeg)) = (1000000000 : Int32) then (0 : Int32) else (if ((σ 8 ((σ 1 (96 + 7 * lk + 1)).toNatClampNeg)) + (σ 1 (96 + 7 * lk + 3))) = (σ 8 x.toNatClampNeg) then (if ((σ 9 ((σ 1 (96 + 7 * lk + 1)).toNatClampNeg)) + (1 : Int32)) = (σ 9 x.toNatClampNeg) then (1 : Int32) else (0 : Int32)) else (0 : Int32))) else (0 : Int32))
set_option maxRecDepth 100000 in
set_option maxHeartbeats 400000 in
theorem c_m_on {g : pr_C} {l : Launch} (hl : l.stackTraces = false) {T : pr_T} {I : pr_I} {L : pr_L} {m : Nat} {σ : pr_I} {lk : Nat} {x : Int32} (hm : pr_Mo T m) (hI : mI σ) (hk : lk < 24) (hx : vp_in x 12) : pr_M g l 2 0 0 mX8_isOn [.ref m, .int (nI lk), .int x] T (rg_put I m 16 σ) L (pr_R (some (.int (m_on_r σ lk x))) T (rg_put I m 16 σ) L) pr_no := by
  refine pr_ofG (by decide) rfl hl (Nat.le_of_ble_eq_true rfl) (fun X hA hX hXn hXt => ?_)
  subst hX
  show pr_G g X mX8_isOn.2.2.1 _ 0 0 0 [.ref m, .int (nI lk), .int x, .null] [] T (rg_put I m 16 σ) L
  have hn5 := mI_n5 hI
  have hr4 := mI_nr4 hI
  have hl24 := mI_nl24 hI
  have hn12 := mI_nn12 hI
  have hf0 : vp_in (σ 1 (96 + 7 * lk + 0)) 12 := (mI_link hI (k := lk) (c := 0) hk (by decide) rfl)
  have ht0 : vp_in (σ 1 (96 + 7 * lk + 1)) 12 := (mI_link hI (k := lk) (c := 1) hk (by decide) rfl)
  refine pr_aload_n hA dX8_isOn_0 rfl ?_
  refine pr_iload_n hA dX8_isOn_1 rfl ?_
  refine pr_iconst hA (1) dX8_isOn_2 (by decide) ?_
  refine pr_callVi hA [.int (nI lk), .int (1 : Int32)] (c_m_link (m := m) (k := lk) (c := 1) (σ := σ) (pr_hl hA) hm (by omega) (by omega)) v_X8_204 (mo_k0 hm) (by decide) rfl rfl rfl (by decide) (Nat.zero_le _) (Nat.zero_le _) rfl (Nat.le_of_ble_eq_true rfl) dX8_isOn_3 ?_
  refine pr_istore_n (ls' := [_, _, _, _]) hA dX8_isOn_6 (by decide) rfl ?_
  refine pr_aload_n hA dX8_isOn_7 rfl ?_
  refine pr_iload_n hA dX8_isOn_8 rfl ?_
  refine pr_iconst hA (0) dX8_isOn_9 (by decide) ?_
  refine pr_callVi hA [.int (nI lk), .int (0 : Int32)] (c_m_link (m := m) (k := lk) (c := 0) (σ := σ) (pr_hl hA) hm (by omega) (by omega)) v_X8_204 (mo_k0 hm) (by decide) rfl rfl rfl (by decide) (Nat.zero_le _) (Nat.zero_le _) rfl (Nat.le_of_ble_eq_true rfl) dX8_isOn_10 ?_
  refine pr_iload_n hA dX8_isOn_13 rfl ?_
  refine pr_join (c := (σ 1 (96 + 7 * lk + 0)) = x) (J := 72) (st := []) (if (σ 8 ((σ 1 (96 + 7 * lk + 1)).toNatClampNeg)) = (1000000000 : Int32) then (0 : Int32) else (if ((σ 8 ((σ 1 (96 + 7 * lk + 1)).toNatClampNeg)) + (σ 1 (96 + 7 * lk + 3))) = (σ 8 x.toNatClampNeg) then (if ((σ 9 ((σ 1 (96 + 7 * lk + 1)).toNatClampNeg)) + (1 : Int32)) = (σ 9 x.toNatClampNeg) then (1 : Int32) else (0 : Int32)) else (0 : Int32))) (0 : Int32) inferInstance (fun kt kf => ?_) ?_
  · refine pr_icmp_ne hA 71 dX8_isOn_14 (by decide) (fun c_14 => ?_) (fun c_14 => ?_)
    · refine pr_iconst hA (0) dX8_isOn_71 (by decide) ?_
      exact kf c_14
    · refine pr_aload_n hA dX8_isOn_17 rfl ?_
      refine pr_getR hA f_X8_32 rfl (mo_k0 hm) (mo_f0_14 hm) dX8_isOn_18 ?_
      refine pr_iload_n hA dX8_isOn_21 rfl ?_
      refine pr_ialdE (v := (σ 8 ((σ 1 (96 + 7 * lk + 1)).toNatClampNeg))) hA (mo_k8 hm) (by assumption) (rg_val (by decide)) dX8_isOn_22 ?_
      refine pr_ldc hA kK_X8_212 dX8_isOn_23 ?_
      refine pr_join (c := (σ 8 ((σ 1 (96 + 7 * lk + 1)).toNatClampNeg)) = (1000000000 : Int32)) (J := 72) (st := []) (0 : Int32) (if ((σ 8 ((σ 1 (96 + 7 * lk + 1)).toNatClampNeg)) + (σ 1 (96 + 7 * lk + 3))) = (σ 8 x.toNatClampNeg) then (if ((σ 9 ((σ 1 (96 + 7 * lk + 1)).toNatClampNeg)) + (1 : Int32)) = (σ 9 x.toNatClampNeg) then (1 : Int32) else (0 : Int32)) else (0 : Int32)) inferInstance (fun kt kf => ?_) ?_
      · refine pr_icmp_eq hA 71 dX8_isOn_25 (by decide) (fun c_25 => ?_) (fun c_25 => ?_)
        · refine pr_iconst hA (0) dX8_isOn_71 (by decide) ?_
          exact kt c_25
        · refine pr_aload_n hA dX8_isOn_28 rfl ?_
          refine pr_getR hA f_X8_32 rfl (mo_k0 hm) (mo_f0_14 hm) dX8_isOn_29 ?_
          refine pr_iload_n hA dX8_isOn_32 rfl ?_
          refine pr_ialdE (v := (σ 8 ((σ 1 (96 + 7 * lk + 1)).toNatClampNeg))) hA (mo_k8 hm) (by assumption) (rg_val (by decide)) dX8_isOn_33 ?_
          refine pr_aload_n hA dX8_isOn_34 rfl ?_
          refine pr_iload_n hA dX8_isOn_35 rfl ?_
          refine pr_iconst hA (3) dX8_isOn_36 (by decide) ?_
          refine pr_callVi hA [.int (nI lk), .int (3 : Int32)] (c_m_link (m := m) (k := lk) (c := 3) (σ := σ) (pr_hl hA) hm (by omega) (by omega)) v_X8_204 (mo_k0 hm) (by decide) rfl rfl rfl (by decide) (Nat.zero_le _) (Nat.zero_le _) rfl (Nat.le_of_ble_eq_true rfl) dX8_isOn_37 ?_
          refine pr_iadd hA dX8_isOn_40 ?_
          refine pr_aload_n hA dX8_isOn_41 rfl ?_
          refine pr_getR hA f_X8_32 rfl (mo_k0 hm) (mo_f0_14 hm) dX8_isOn_42 ?_
          refine pr_iload_n hA dX8_isOn_45 rfl ?_
          refine pr_ialdE (v := (σ 8 x.toNatClampNeg)) hA (mo_k8 hm) (by assumption) (rg_val (by decide)) dX8_isOn_46 ?_
          refine pr_join (c := ((σ 8 ((σ 1 (96 + 7 * lk + 1)).toNatClampNeg)) + (σ 1 (96 + 7 * lk + 3))) = (σ 8 x.toNatClampNeg)) (J := 72) (st := []) (if ((σ 9 ((σ 1 (96 + 7 * lk + 1)).toNatClampNeg)) + (1 : Int32)) = (σ 9 x.toNatClampNeg) then (1 : Int32) else (0 : Int32)) (0 : Int32) inferInstance (fun kt kf => ?_) ?_
          · refine pr_icmp_ne hA 71 dX8_isOn_47 (by decide) (fun c_47 => ?_) (fun c_47 => ?_)
            · refine pr_iconst hA (0) dX8_isOn_71 (by decide) ?_
              exact kf c_47
            · refine pr_aload_n hA dX8_isOn_50 rfl ?_
              refine pr_getR hA f_X8_35 rfl (mo_k0 hm) (mo_f0_15 hm) dX8_isOn_51 ?_
              refine pr_iload_n hA dX8_isOn_54 rfl ?_
              refine pr_ialdE (v := (σ 9 ((σ 1 (96 + 7 * lk + 1)).toNatClampNeg))) hA (mo_k9 hm) (by assumption) (rg_val (by decide)) dX8_isOn_55 ?_
              refine pr_iconst hA (1) dX8_isOn_56 (by decide) ?_
              refine pr_iadd hA dX8_isOn_57 ?_
              refine pr_aload_n hA dX8_isOn_58 rfl ?_
              refine pr_getR hA f_X8_35 rfl (mo_k0 hm) (mo_f0_15 hm) dX8_isOn_59 ?_
              refine pr_iload_n hA dX8_isOn_62 rfl ?_
              refine pr_ialdE (v := (σ 9 x.toNatClampNeg)) hA (mo_k9 hm) (by assumption) (rg_val (by decide)) dX8_isOn_63 ?_
              refine pr_join (c := ((σ 9 ((σ 1 (96 + 7 * lk + 1)).toNatClampNeg)) + (1 : Int32)) = (σ 9 x.toNatClampNeg)) (J := 72) (st := []) (1 : Int32) (0 : Int32) inferInstance (fun kt kf => ?_) ?_
              · refine pr_icmp_ne hA 71 dX8_isOn_64 (by decide) (fun c_64 => ?_) (fun c_64 => ?_)
                · refine pr_iconst hA (0) dX8_isOn_71 (by decide) ?_
                  exact kf c_64
                · refine pr_iconst hA (1) dX8_isOn_67 (by decide) ?_
                  refine pr_goto hA 72 dX8_isOn_68 (by decide) ?_
                  exact kt c_64
              · exact kt c_47
          · exact kf c_25
      · exact kt c_14
  · exact pr_ireturn hA rfl (pr_nb (by repeat (first | exact Or.inl rfl | exact Or.inr rfl | refine nb_ite ?_ ?_))) (Nat.zero_le _) (Nat.zero_le _) dX8_isOn_72 ⟨rfl, rfl, rfl, rfl⟩

