noncomputable def m_sh_r (σ : pr_I) (lk : Nat) : Int32 := (if (σ 8 ((σ 1 (96 + 7 * lk + 1)).toNatClampNeg)) = (1000000000 : Int32) then (0 : Int32) else (if ((σ 8 ((σ 1 (96 + 7 * lk + 1)).toNatClampNeg)) + (σ 1 (96 + 7 * lk + 3))) < (σ 8 ((σ 1 (96 + 7 * lk + 0)).toNatClampNeg)) then (1 : Int32) else (if ((σ 8 ((σ 1 (96 + 7 * lk + 1)).toNatClampNeg)) + (σ 1 (96 + 7 * lk + 3))) = (σ 8 ((σ 1 (96 + 7 * lk + 0)).toNatClampNeg)) then (if (σ 9 ((σ 1 (96 + 7 * lk + 0)).toNatClampNeg)) ≤ ((σ 9 ((σ 1 (96 + 7 * lk + 1)).toNatClampNeg)) + (1 : Int32)) then (0 : Int32) else (1 : Int32)) else (0 : Int32))))
set_option maxRecDepth 100000 in
set_option maxHeartbeats 400000 in
theorem c_m_sh {g : pr_C} {l : Launch} (hl : l.stackTraces = false) {T : pr_T} {I : pr_I} {L : pr_L} {m : Nat} {σ : pr_I} {lk : Nat} (hm : pr_Mo T m) (hI : mI σ) (hk : lk < 24) : pr_M g l 2 0 0 mX8_isShorter [.ref m, .int (nI lk)] T (rg_put I m 16 σ) L (pr_R (some (.int (m_sh_r σ lk))) T (rg_put I m 16 σ) L) pr_no := by
  refine pr_ofG (by decide) rfl hl (Nat.le_of_ble_eq_true rfl) (fun X hA hX hXn hXt => ?_)
  subst hX
  show pr_G g X mX8_isShorter.2.2.1 _ 0 0 0 [.ref m, .int (nI lk), .null, .null, .null] [] T (rg_put I m 16 σ) L
  have hn5 := mI_n5 hI
  have hr4 := mI_nr4 hI
  have hl24 := mI_nl24 hI
  have hn12 := mI_nn12 hI
  have hf0 : vp_in (σ 1 (96 + 7 * lk + 0)) 12 := (mI_link hI (k := lk) (c := 0) hk (by decide) rfl)
  have ht0 : vp_in (σ 1 (96 + 7 * lk + 1)) 12 := (mI_link hI (k := lk) (c := 1) hk (by decide) rfl)
  refine pr_aload_n hA dX8_isShorter_0 rfl ?_
  refine pr_iload_n hA dX8_isShorter_1 rfl ?_
  refine pr_iconst hA (0) dX8_isShorter_2 (by decide) ?_
  refine pr_callVi hA [.int (nI lk), .int (0 : Int32)] (c_m_link (m := m) (k := lk) (c := 0) (σ := σ) (pr_hl hA) hm (by omega) (by omega)) v_X8_204 (mo_k0 hm) (by decide) rfl rfl rfl (by decide) (Nat.zero_le _) (Nat.zero_le _) rfl (Nat.le_of_ble_eq_true rfl) dX8_isShorter_3 ?_
  refine pr_istore_n (ls' := [_, _, _, _, _]) hA dX8_isShorter_6 (by decide) rfl ?_
  refine pr_aload_n hA dX8_isShorter_7 rfl ?_
  refine pr_iload_n hA dX8_isShorter_8 rfl ?_
  refine pr_iconst hA (1) dX8_isShorter_9 (by decide) ?_
  refine pr_callVi hA [.int (nI lk), .int (1 : Int32)] (c_m_link (m := m) (k := lk) (c := 1) (σ := σ) (pr_hl hA) hm (by omega) (by omega)) v_X8_204 (mo_k0 hm) (by decide) rfl rfl rfl (by decide) (Nat.zero_le _) (Nat.zero_le _) rfl (Nat.le_of_ble_eq_true rfl) dX8_isShorter_10 ?_
  refine pr_istore_n (ls' := [_, _, _, _, _]) hA dX8_isShorter_13 (by decide) rfl ?_
  refine pr_aload_n hA dX8_isShorter_14 rfl ?_
  refine pr_getR hA f_X8_32 rfl (mo_k0 hm) (mo_f0_14 hm) dX8_isShorter_15 ?_
  refine pr_iload_n hA dX8_isShorter_18 rfl ?_
  refine pr_ialdE (v := (σ 8 ((σ 1 (96 + 7 * lk + 1)).toNatClampNeg))) hA (mo_k8 hm) (by assumption) (rg_val (by decide)) dX8_isShorter_19 ?_
  refine pr_ldc hA kK_X8_212 dX8_isShorter_20 ?_
  refine pr_icmp_ne hA 27 dX8_isShorter_22 (by decide) (fun c_22 => ?_) (fun c_22 => ?_)
  · refine pr_aload_n hA dX8_isShorter_27 rfl ?_
    refine pr_getR hA f_X8_32 rfl (mo_k0 hm) (mo_f0_14 hm) dX8_isShorter_28 ?_
    refine pr_iload_n hA dX8_isShorter_31 rfl ?_
    refine pr_ialdE (v := (σ 8 ((σ 1 (96 + 7 * lk + 1)).toNatClampNeg))) hA (mo_k8 hm) (by assumption) (rg_val (by decide)) dX8_isShorter_32 ?_
    refine pr_aload_n hA dX8_isShorter_33 rfl ?_
    refine pr_iload_n hA dX8_isShorter_34 rfl ?_
    refine pr_iconst hA (3) dX8_isShorter_35 (by decide) ?_
    refine pr_callVi hA [.int (nI lk), .int (3 : Int32)] (c_m_link (m := m) (k := lk) (c := 3) (σ := σ) (pr_hl hA) hm (by omega) (by omega)) v_X8_204 (mo_k0 hm) (by decide) rfl rfl rfl (by decide) (Nat.zero_le _) (Nat.zero_le _) rfl (Nat.le_of_ble_eq_true rfl) dX8_isShorter_36 ?_
    refine pr_iadd hA dX8_isShorter_39 ?_
    refine pr_istore (ls' := [_, _, _, _, _]) hA dX8_isShorter_40 (by decide) rfl ?_
    refine pr_iload hA dX8_isShorter_42 rfl ?_
    refine pr_aload_n hA dX8_isShorter_44 rfl ?_
    refine pr_getR hA f_X8_32 rfl (mo_k0 hm) (mo_f0_14 hm) dX8_isShorter_45 ?_
    refine pr_iload_n hA dX8_isShorter_48 rfl ?_
    refine pr_ialdE (v := (σ 8 ((σ 1 (96 + 7 * lk + 0)).toNatClampNeg))) hA (mo_k8 hm) (by assumption) (rg_val (by decide)) dX8_isShorter_49 ?_
    refine pr_join (c := ((σ 8 ((σ 1 (96 + 7 * lk + 1)).toNatClampNeg)) + (σ 1 (96 + 7 * lk + 3))) < (σ 8 ((σ 1 (96 + 7 * lk + 0)).toNatClampNeg))) (J := 86) (st := []) (1 : Int32) (if ((σ 8 ((σ 1 (96 + 7 * lk + 1)).toNatClampNeg)) + (σ 1 (96 + 7 * lk + 3))) = (σ 8 ((σ 1 (96 + 7 * lk + 0)).toNatClampNeg)) then (if (σ 9 ((σ 1 (96 + 7 * lk + 0)).toNatClampNeg)) ≤ ((σ 9 ((σ 1 (96 + 7 * lk + 1)).toNatClampNeg)) + (1 : Int32)) then (0 : Int32) else (1 : Int32)) else (0 : Int32)) inferInstance (fun kt kf => ?_) ?_
    · refine pr_icmp_lt hA 81 dX8_isShorter_50 (by decide) (fun c_50 => ?_) (fun c_50 => ?_)
      · refine pr_iconst hA (1) dX8_isShorter_81 (by decide) ?_
        refine pr_goto hA 86 dX8_isShorter_82 (by decide) ?_
        exact kt c_50
      · refine pr_iload hA dX8_isShorter_53 rfl ?_
        refine pr_aload_n hA dX8_isShorter_55 rfl ?_
        refine pr_getR hA f_X8_32 rfl (mo_k0 hm) (mo_f0_14 hm) dX8_isShorter_56 ?_
        refine pr_iload_n hA dX8_isShorter_59 rfl ?_
        refine pr_ialdE (v := (σ 8 ((σ 1 (96 + 7 * lk + 0)).toNatClampNeg))) hA (mo_k8 hm) (by assumption) (rg_val (by decide)) dX8_isShorter_60 ?_
        refine pr_join (c := ((σ 8 ((σ 1 (96 + 7 * lk + 1)).toNatClampNeg)) + (σ 1 (96 + 7 * lk + 3))) = (σ 8 ((σ 1 (96 + 7 * lk + 0)).toNatClampNeg))) (J := 86) (st := []) (if (σ 9 ((σ 1 (96 + 7 * lk + 0)).toNatClampNeg)) ≤ ((σ 9 ((σ 1 (96 + 7 * lk + 1)).toNatClampNeg)) + (1 : Int32)) then (0 : Int32) else (1 : Int32)) (0 : Int32) inferInstance (fun kt kf => ?_) ?_
        · refine pr_icmp_ne hA 85 dX8_isShorter_61 (by decide) (fun c_61 => ?_) (fun c_61 => ?_)
          · refine pr_iconst hA (0) dX8_isShorter_85 (by decide) ?_
            exact kf c_61
          · refine pr_aload_n hA dX8_isShorter_64 rfl ?_
            refine pr_getR hA f_X8_35 rfl (mo_k0 hm) (mo_f0_15 hm) dX8_isShorter_65 ?_
            refine pr_iload_n hA dX8_isShorter_68 rfl ?_
            refine pr_ialdE (v := (σ 9 ((σ 1 (96 + 7 * lk + 1)).toNatClampNeg))) hA (mo_k9 hm) (by assumption) (rg_val (by decide)) dX8_isShorter_69 ?_
            refine pr_iconst hA (1) dX8_isShorter_70 (by decide) ?_
            refine pr_iadd hA dX8_isShorter_71 ?_
            refine pr_aload_n hA dX8_isShorter_72 rfl ?_
            refine pr_getR hA f_X8_35 rfl (mo_k0 hm) (mo_f0_15 hm) dX8_isShorter_73 ?_
            refine pr_iload_n hA dX8_isShorter_76 rfl ?_
            refine pr_ialdE (v := (σ 9 ((σ 1 (96 + 7 * lk + 0)).toNatClampNeg))) hA (mo_k9 hm) (by assumption) (rg_val (by decide)) dX8_isShorter_77 ?_
            refine pr_join (c := (σ 9 ((σ 1 (96 + 7 * lk + 0)).toNatClampNeg)) ≤ ((σ 9 ((σ 1 (96 + 7 * lk + 1)).toNatClampNeg)) + (1 : Int32))) (J := 86) (st := []) (0 : Int32) (1 : Int32) inferInstance (fun kt kf => ?_) ?_
            · refine pr_icmp_ge hA 85 dX8_isShorter_78 (by decide) (fun c_78 => ?_) (fun c_78 => ?_)
              · refine pr_iconst hA (0) dX8_isShorter_85 (by decide) ?_
                exact kt c_78
              · refine pr_iconst hA (1) dX8_isShorter_81 (by decide) ?_
                refine pr_goto hA 86 dX8_isShorter_82 (by decide) ?_
                exact kf c_78
            · exact kt c_61
        · exact kf c_50
    · exact pr_ireturn hA rfl (pr_nb (by repeat (first | exact Or.inl rfl | exact Or.inr rfl | refine nb_ite ?_ ?_))) (Nat.zero_le _) (Nat.zero_le _) dX8_isShorter_86 ⟨(by simp only [m_sh_r, if_neg c_22]), rfl, rfl, rfl⟩
  · refine pr_iconst hA (0) dX8_isShorter_25 (by decide) ?_
    exact pr_ireturn hA rfl (pr_nb (by repeat (first | exact Or.inl rfl | exact Or.inr rfl | refine nb_ite ?_ ?_))) (Nat.zero_le _) (Nat.zero_le _) dX8_isShorter_26 ⟨(by simp only [m_sh_r, if_pos c_22]), rfl, rfl, rfl⟩

noncomputable def m_on_r (σ : pr_I) (lk : Nat) (x : Int32) : Int32 := (if (σ 1 (96 + 7 * lk + 0)) = x then (if (σ 8 ((σ 1 (96 + 7 * lk + 1)).toNatClampNeg)) = (1000000000 : Int32) then (0 : Int32) else (if ((σ 8 ((σ 1 (96 + 7 * lk + 1)).toNatClampNeg)) + (σ 1 (96 + 7 * lk + 3))) = (σ 8 x.toNatClampNeg) then (if ((σ 9 ((σ 1 (96 + 7 * lk + 1)).toNatClampNeg)) + (1 : Int32)) = (σ 9 x.toNatClampNeg) then (1 : Int32) else (0 : Int32)) else (0 : Int32))) else (0 : Int32))
set_option maxRecDepth 100000 in
set_option maxHeartbeats 400000 in
theorem c_m_on {g : pr_C} {l : Launch} (hl : l.stackTraces = false) {T : pr_T} {I : pr_I} {L : pr_L} {m : Nat} {σ : pr_I} {lk : Nat} {x : Int32} (hm : pr_Mo T m) (hI : mI σ) (hk : lk < 24) (hx : vp_in x 12) : pr_M g l 2 0 0 mX8_isOn [.ref m, .int (nI lk), .int x] T (rg_put I m 16 σ) L (pr_R (some (.int (m_on_r σ lk x))) T (rg_put I m 16 σ) L) pr_no := by
  refine pr_ofG (by decide) rfl hl (Nat.le_of_ble_eq_true rfl) (fun X hA hX hXn hXt => ?_)
  subst hX
  show pr_G g X mX8_isOn.2.2.1 _ 0 0 0 [.ref m, .int (nI lk), .int x, .null] [] T (rg_put I m 16 σ) L
  have hn5 := mI_n5 hI
  have hr4 := mI_nr4 hI
  have hl24 := mI_nl24 hI
  have hn12 := mI_nn12 hI
  have hf0 : vp_in (σ 1 (96 + 7 * lk + 0)) 12 := (mI_link hI (k := lk) (c := 0) hk (by decide) rfl)
  have ht0 : vp_in (σ 1 (96 + 7 * lk + 1)) 12 := (mI_link hI (k := lk) (c := 1) hk (by decide) rfl)
  refine pr_aload_n hA dX8_isOn_0 rfl ?_
  refine pr_iload_n hA dX8_isOn_1 rfl ?_
  refine pr_iconst hA (1) dX8_isOn_2 (by decide) ?_
  refine pr_callVi hA [.int (nI lk), .int (1 : Int32)] (c_m_link (m := m) (k := lk) (c := 1) (σ := σ) (pr_hl hA) hm (by omega) (by omega)) v_X8_204 (mo_k0 hm) (by decide) rfl rfl rfl (by decide) (Nat.zero_le _) (Nat.zero_le _) rfl (Nat.le_of_ble_eq_true rfl) dX8_isOn_3 ?_
  refine pr_istore_n (ls' := [_, _, _, _]) hA dX8_isOn_6 (by decide) rfl ?_
  refine pr_aload_n hA dX8_isOn_7 rfl ?_
  refine pr_iload_n hA dX8_isOn_8 rfl ?_
  refine pr_iconst hA (0) dX8_isOn_9 (by decide) ?_
  refine pr_callVi hA [.int (nI lk), .int (0 : Int32)] (c_m_link (m := m) (k := lk) (c := 0) (σ := σ) (pr_hl hA) hm (by omega) (by omega)) v_X8_204 (mo_k0 hm) (by decide) rfl rfl rfl (by decide) (Nat.zero_le _) (Nat.zero_le _) rfl (Nat.le_of_ble_eq_true rfl) dX8_isOn_10 ?_
  refine pr_iload_n hA dX8_isOn_13 rfl ?_
  refine pr_join (c := (σ 1 (96 + 7 * lk + 0)) = x) (J := 72) (st := []) (if (σ 8 ((σ 1 (96 + 7 * lk + 1)).toNatClampNeg)) = (1000000000 : Int32) then (0 : Int32) else (if ((σ 8 ((σ 1 (96 + 7 * lk + 1)).toNatClampNeg)) + (σ 1 (96 + 7 * lk + 3))) = (σ 8 x.toNatClampNeg) then (if ((σ 9 ((σ 1 (96 + 7 * lk + 1)).toNatClampNeg)) + (1 : Int32)) = (σ 9 x.toNatClampNeg) then (1 : Int32) else (0 : Int32)) else (0 : Int32))) (0 : Int32) inferInstance (fun kt kf => ?_) ?_
  · refine pr_icmp_ne hA 71 dX8_isOn_14 (by decide) (fun c_14 => ?_) (fun c_14 => ?_)
    · refine pr_iconst hA (0) dX8_isOn_71 (by decide) ?_
      exact kf c_14
    · refine pr_aload_n hA dX8_isOn_17 rfl ?_
      refine pr_getR hA f_X8_32 rfl (mo_k0 hm) (mo_f0_14 hm) dX8_isOn_18 ?_
      refine pr_iload_n hA dX8_isOn_21 rfl ?_
      refine pr_ialdE (v := (σ 8 ((σ 1 (96 + 7 * lk + 1)).toNatClampNeg))) hA (mo_k8 hm) (by assumption) (rg_val (by decide)) dX8_isOn_22 ?_
      refine pr_ldc hA kK_X8_212 dX8_isOn_23 ?_
      refine pr_join (c := (σ 8 ((σ 1 (96 + 7 * lk + 1)).toNatClampNeg)) = (1000000000 : Int32)) (J := 72) (st := []) (0 : Int32) (if ((σ 8 ((σ 1 (96 + 7 * lk + 1)).toNatClampNeg)) + (σ 1 (96 + 7 * lk + 3))) = (σ 8 x.toNatClampNeg) then (if ((σ 9 ((σ 1 (96 + 7 * lk + 1)).toNatClampNeg)) + (1 : Int32)) = (σ 9 x.toNatClampNeg) then (1 : Int32) else (0 : Int32)) else (0 : Int32)) inferInstance (fun kt kf => ?_) ?_
      · refine pr_icmp_eq hA 71 dX8_isOn_25 (by decide) (fun c_25 => ?_) (fun c_25 => ?_)
        · refine pr_iconst hA (0) dX8_isOn_71 (by decide) ?_
          exact kt c_25
        · refine pr_aload_n hA dX8_isOn_28 rfl ?_
          refine pr_getR hA f_X8_32 rfl (mo_k0 hm) (mo_f0_14 hm) dX8_isOn_29 ?_
          refine pr_iload_n hA dX8_isOn_32 rfl ?_
          refine pr_ialdE (v := (σ 8 ((σ 1 (96 + 7 * lk + 1)).toNatClampNeg))) hA (mo_k8 hm) (by assumption) (rg_val (by decide)) dX8_isOn_33 ?_
          refine pr_aload_n hA dX8_isOn_34 rfl ?_
          refine pr_iload_n hA dX8_isOn_35 rfl ?_
          refine pr_iconst hA (3) dX8_isOn_36 (by decide) ?_
          refine pr_callVi hA [.int (nI lk), .int (3 : Int32)] (c_m_link (m := m) (k := lk) (c := 3) (σ := σ) (pr_hl hA) hm (by omega) (by omega)) v_X8_204 (mo_k0 hm) (by decide) rfl rfl rfl (by decide) (Nat.zero_le _) (Nat.zero_le _) rfl (Nat.le_of_ble_eq_true rfl) dX8_isOn_37 ?_
          refine pr_iadd hA dX8_isOn_40 ?_
          refine pr_aload_n hA dX8_isOn_41 rfl ?_
          refine pr_getR hA f_X8_32 rfl (mo_k0 hm) (mo_f0_14 hm) dX8_isOn_42 ?_
          refine pr_iload_n hA dX8_isOn_45 rfl ?_
          refine pr_ialdE (v := (σ 8 x.toNatClampNeg)) hA (mo_k8 hm) (by assumption) (rg_val (by decide)) dX8_isOn_46 ?_
          refine pr_join (c := ((σ 8 ((σ 1 (96 + 7 * lk + 1)).toNatClampNeg)) + (σ 1 (96 + 7 * lk + 3))) = (σ 8 x.toNatClampNeg)) (J := 72) (st := []) (if ((σ 9 ((σ 1 (96 + 7 * lk + 1)).toNatClampNeg)) + (1 : Int32)) = (σ 9 x.toNatClampNeg) then (1 : Int32) else (0 : Int32)) (0 : Int32) inferInstance (fun kt kf => ?_) ?_
          · refine pr_icmp_ne hA 71 dX8_isOn_47 (by decide) (fun c_47 => ?_) (fun c_47 => ?_)
            · refine pr_iconst hA (0) dX8_isOn_71 (by decide) ?_
              exact kf c_47
            · refine pr_aload_n hA dX8_isOn_50 rfl ?_
              refine pr_getR hA f_X8_35 rfl (mo_k0 hm) (mo_f0_15 hm) dX8_isOn_51 ?_
              refine pr_iload_n hA dX8_isOn_54 rfl ?_
              refine pr_ialdE (v := (σ 9 ((σ 1 (96 + 7 * lk + 1)).toNatClampNeg))) hA (mo_k9 hm) (by assumption) (rg_val (by decide)) dX8_isOn_55 ?_
              refine pr_iconst hA (1) dX8_isOn_56 (by decide) ?_
              refine pr_iadd hA dX8_isOn_57 ?_
              refine pr_aload_n hA dX8_isOn_58 rfl ?_
              refine pr_getR hA f_X8_35 rfl (mo_k0 hm) (mo_f0_15 hm) dX8_isOn_59 ?_
              refine pr_iload_n hA dX8_isOn_62 rfl ?_
              refine pr_ialdE (v := (σ 9 x.toNatClampNeg)) hA (mo_k9 hm) (by assumption) (rg_val (by decide)) dX8_isOn_63 ?_
              refine pr_join (c := ((σ 9 ((σ 1 (96 + 7 * lk + 1)).toNatClampNeg)) + (1 : Int32)) = (σ 9 x.toNatClampNeg)) (J := 72) (st := []) (1 : Int32) (0 : Int32) inferInstance (fun kt kf => ?_) ?_
              · refine pr_icmp_ne hA 71 dX8_isOn_64 (by decide) (fun c_64 => ?_) (fun c_64 => ?_)
                · refine pr_iconst hA (0) dX8_isOn_71 (by decide) ?_
                  exact kf c_64
                · refine pr_iconst hA (1) dX8_isOn_67 (by decide) ?_
                  refine pr_goto hA 72 dX8_isOn_68 (by decide) ?_
                  exact kt c_64
              · exact kt c_47
          · exact kf c_25
      · exact kt c_14
  · exact pr_ireturn hA rfl (pr_nb (by repeat (first | exact Or.inl rfl | exact Or.inr rfl | refine nb_ite ?_ ?_))) (Nat.zero_le _) (Nat.zero_le _) dX8_isOn_72 ⟨rfl, rfl, rfl, rfl⟩

theorem mI_89 {σ ψ : pr_I} (h : mI σ) (hk : ∀ {o : Nat}, (∀ m ∈ ([8, 9] : List Nat), o ≠ m) → ψ o = σ o) : mI ψ := h.keep (fun o j B q => by
  have ho : ∀ m ∈ ([8, 9] : List Nat), o ≠ m := by
    intro m hm
    simp only [List.mem_cons, List.not_mem_nil, or_false] at hm
    rcases hm with rfl | rfl
    · intro e; subst e; simp [mB] at q
    · intro e; subst e; simp [mB] at q
  rw [hk ho])
noncomputable def m_lp_it2 (σ : pr_I) (t : Int32) (u : Int32) : Nat → pr_I
  | 0 => σ
  | k + 1 => (pr_up (pr_up (m_lp_it2 σ t u k) 8 k (1000000000 : Int32)) 9 k (1000000000 : Int32))
theorem fr_m_lp_it2 {σ : pr_I} {t : Int32} {u : Int32} {o : Nat} (hms : ∀ m ∈ ([8, 9] : List Nat), o ≠ m) : ∀ {k : Nat}, (m_lp_it2 σ t u k) o = σ o := by
  simp only [List.mem_cons, List.not_mem_nil, or_false, forall_eq_or_imp, forall_eq] at hms
  intro k
  induction k with
  | zero =>
    show σ o = σ o
    rfl
  | succ k ih =>
    show (pr_up (pr_up (m_lp_it2 σ t u k) 8 k (1000000000 : Int32)) 9 k (1000000000 : Int32)) o = σ o
    rw [pr_up_ne (by omega), pr_up_ne (by omega), ih]

noncomputable def m_lp_it60 (σ σ1 : pr_I) (t : Int32) (u : Int32) (k : Nat) : Nat → pr_I × Int32
  | 0 => (σ1, (nI 0))
  | k1 + 1 => (if (m_has_r (m_lp_it60 σ σ1 t u k k1).1 u (nI k1)) = 0 then ((m_lp_it60 σ σ1 t u k k1).1, ((m_lp_it60 σ σ1 t u k k1).2)) else (if (m_sh_r (m_lp_it60 σ σ1 t u k k1).1 k1) = 0 then ((m_lp_it60 σ σ1 t u k k1).1, ((m_lp_it60 σ σ1 t u k k1).2)) else ((pr_up (pr_up (m_lp_it60 σ σ1 t u k k1).1 8 ((σ 1 (96 + 7 * k1 + 0)).toNatClampNeg) (((m_lp_it60 σ σ1 t u k k1).1 8 ((σ 1 (96 + 7 * k1 + 1)).toNatClampNeg)) + (σ 1 (96 + 7 * k1 + 3)))) 9 ((σ 1 (96 + 7 * k1 + 0)).toNatClampNeg) (((m_lp_it60 σ σ1 t u k k1).1 9 ((σ 1 (96 + 7 * k1 + 1)).toNatClampNeg)) + (1 : Int32))), (nI 1))))
theorem fr_m_lp_it60 {σ σ1 : pr_I} {t : Int32} {u : Int32} {k : Nat} {o : Nat} (hms : ∀ m ∈ ([8, 9] : List Nat), o ≠ m) : ∀ {k1 : Nat}, (m_lp_it60 σ σ1 t u k k1).1 o = σ1 o := by
  simp only [List.mem_cons, List.not_mem_nil, or_false, forall_eq_or_imp, forall_eq] at hms
  intro k1
  induction k1 with
  | zero =>
    show σ1 o = σ1 o
    rfl
  | succ k1 ih =>
    by_cases c_78 : (m_has_r (m_lp_it60 σ σ1 t u k k1).1 u (nI k1)) = 0
    · refine (congrFun (congrArg (fun z : pr_I × Int32 => z.1) (if_pos c_78)) o).trans ?_
      show (m_lp_it60 σ σ1 t u k k1).1 o = σ1 o
      rw [ih]
    · refine (congrFun (congrArg (fun z : pr_I × Int32 => z.1) (if_neg c_78)) o).trans ?_
      by_cases c_87 : (m_sh_r (m_lp_it60 σ σ1 t u k k1).1 k1) = 0
      · refine (congrFun (congrArg (fun z : pr_I × Int32 => z.1) (if_pos c_87)) o).trans ?_
        show (m_lp_it60 σ σ1 t u k k1).1 o = σ1 o
        rw [ih]
      · refine (congrFun (congrArg (fun z : pr_I × Int32 => z.1) (if_neg c_87)) o).trans ?_
        show (pr_up (pr_up (m_lp_it60 σ σ1 t u k k1).1 8 ((σ 1 (96 + 7 * k1 + 0)).toNatClampNeg) (((m_lp_it60 σ σ1 t u k k1).1 8 ((σ 1 (96 + 7 * k1 + 1)).toNatClampNeg)) + (σ 1 (96 + 7 * k1 + 3)))) 9 ((σ 1 (96 + 7 * k1 + 0)).toNatClampNeg) (((m_lp_it60 σ σ1 t u k k1).1 9 ((σ 1 (96 + 7 * k1 + 1)).toNatClampNeg)) + (1 : Int32))) o = σ1 o
        rw [pr_up_ne (by omega), pr_up_ne (by omega), ih]

noncomputable def m_lp_it51 (σ : pr_I) (t : Int32) (u : Int32) : Nat → pr_I × Int32
  | 0 => ((pr_up (pr_up (m_lp_it2 σ t u (mnn σ)) 8 t.toNatClampNeg (0 : Int32)) 9 t.toNatClampNeg (0 : Int32)), (nI 1))
  | k + 1 => (if ((m_lp_it51 σ t u k).2) = 0 then ((m_lp_it51 σ t u k).1, ((m_lp_it51 σ t u k).2)) else ((m_lp_it60 σ (m_lp_it51 σ t u k).1 t u k (mln σ)).1, ((m_lp_it60 σ (m_lp_it51 σ t u k).1 t u k (mln σ)).2)))
theorem fr_m_lp_it51 {σ : pr_I} {t : Int32} {u : Int32} {o : Nat} (hms : ∀ m ∈ ([8, 9] : List Nat), o ≠ m) : ∀ {k : Nat}, (m_lp_it51 σ t u k).1 o = (pr_up (pr_up (m_lp_it2 σ t u (mnn σ)) 8 t.toNatClampNeg (0 : Int32)) 9 t.toNatClampNeg (0 : Int32)) o := by
  simp only [List.mem_cons, List.not_mem_nil, or_false, forall_eq_or_imp, forall_eq] at hms
  intro k
  induction k with
  | zero =>
    show (pr_up (pr_up (m_lp_it2 σ t u (mnn σ)) 8 t.toNatClampNeg (0 : Int32)) 9 t.toNatClampNeg (0 : Int32)) o = (pr_up (pr_up (m_lp_it2 σ t u (mnn σ)) 8 t.toNatClampNeg (0 : Int32)) 9 t.toNatClampNeg (0 : Int32)) o
    rfl
  | succ k ih =>
    by_cases c_52 : ((m_lp_it51 σ t u k).2) = 0
    · refine (congrFun (congrArg (fun z : pr_I × Int32 => z.1) (if_pos c_52)) o).trans ?_
      show (m_lp_it51 σ t u k).1 o = (pr_up (pr_up (m_lp_it2 σ t u (mnn σ)) 8 t.toNatClampNeg (0 : Int32)) 9 t.toNatClampNeg (0 : Int32)) o
      rw [ih]
    · refine (congrFun (congrArg (fun z : pr_I × Int32 => z.1) (if_neg c_52)) o).trans ?_
      show (m_lp_it60 σ (m_lp_it51 σ t u k).1 t u k (mln σ)).1 o = (pr_up (pr_up (m_lp_it2 σ t u (mnn σ)) 8 t.toNatClampNeg (0 : Int32)) 9 t.toNatClampNeg (0 : Int32)) o
      rw [fr_m_lp_it60 (by simp only [List.mem_cons, List.not_mem_nil, or_false, forall_eq_or_imp, forall_eq]; omega), ih]

noncomputable def m_lp_it51_e (σ : pr_I) (t : Int32) (u : Int32) (k : Nat) : Bool := (if ((m_lp_it51 σ t u k).2) = 0 then true else false)
theorem st_m_lp_it51_52 {σ : pr_I} {t : Int32} {u : Int32} {k : Nat} (c_52 : ((m_lp_it51 σ t u k).2) = 0) : ∀ j, m_lp_it51 σ t u (k + j) = m_lp_it51 σ t u k
  | 0 => rfl
  | j + 1 => by
    have ih := st_m_lp_it51_52 c_52 j
    show m_lp_it51 σ t u ((k + j) + 1) = m_lp_it51 σ t u k
    simp only [m_lp_it51, ih, if_pos c_52]
noncomputable def m_lp (σ : pr_I) (t : Int32) (u : Int32) : pr_I := (m_lp_it51 σ t u (sl 13)).1
set_option maxRecDepth 100000 in
set_option maxHeartbeats 400000 in
theorem c_m_lp {g : pr_C} {l : Launch} (hl : l.stackTraces = false) {T : pr_T} {I : pr_I} {L : pr_L} {m : Nat} {σ : pr_I} {t : Int32} {u : Int32} (hm : pr_Mo T m) (hI : mI σ) (ht : vp_in t 12) (hend : m_lp_it51_e σ t u (sl 13) = true) : pr_M g l 3 0 0 mX8_laysPrices [.ref m, .int t, .int u] T (rg_put I m 16 σ) L (pr_R none T (rg_put I m 16 (m_lp σ t u)) L) pr_no := by
  refine pr_ofG (by decide) rfl hl (Nat.le_of_ble_eq_true rfl) (fun X hA hX hXn hXt => ?_)
  subst hX
  show pr_G g X mX8_laysPrices.2.2.1 _ 0 0 0 [.ref m, .int t, .int u, .null, .null] [] T (rg_put I m 16 σ) L
  have hn5 := mI_n5 hI
  have hr4 := mI_nr4 hI
  have hl24 := mI_nl24 hI
  have hn12 := mI_nn12 hI
  have hfl : ∀ k, k < 24 → vp_in (σ 1 (96 + 7 * k + 0)) 12 ∧ vp_in (σ 1 (96 + 7 * k + 1)) 12 := fun k hk => ⟨mI_link hI hk (by decide) rfl, mI_link hI hk (by decide) rfl⟩
  have hsl13 := sl_eq 13
  refine pr_iconst hA (nI 0) dX8_laysPrices_0 (by decide) ?_
  refine pr_istore_n (ls' := [_, _, _, _, _]) hA dX8_laysPrices_1 (by decide) rfl ?_
  have lp2 : ∀ (j k : Nat), (mnn σ) - k = j → k ≤ (mnn σ) → pr_G g X mX8_laysPrices.2.2.1 (pr_MQ g X (pr_R none T (rg_put I m 16 (m_lp σ t u)) L) pr_no 0 0) 0 0 2 [.ref m, .int t, .int u, .int (nI k), .null] [] T (rg_put I m 16 (m_lp_it2 σ t u k)) L := by
    intro j
    induction j using Nat.strongRecOn with | ind j ih2 =>
    intro k hj2 hk2
    refine pr_iload_n hA dX8_laysPrices_2 rfl ?_
    refine pr_aload_n hA dX8_laysPrices_3 rfl ?_
    refine pr_getR hA f_X8_9 rfl (mo_k0 hm) (mo_f0_0 hm) dX8_laysPrices_4 ?_
    refine pr_bipush hA (nI 6) dX8_laysPrices_7 (by decide) ?_
    refine pr_ialdM (v := (nI (mnn σ))) hA (mo_k1 hm) (by omega) (by omega) ((rg_val (by decide)).trans ((congrFun (fr_m_lp_it2 (by decide)) _).trans (mI_nn hI))) dX8_laysPrices_9 ?_
    refine pr_icmp_ge hA 35 dX8_laysPrices_10 (by decide) (fun c_10 => ?_) (fun c_10 => ?_)
    · have n_10 : (mnn σ) ≤ k := (nI_leI (by omega) (by omega)).mp c_10
      have hex : (mnn σ) = k := by omega
      subst hex
      refine pr_aload_n hA dX8_laysPrices_35 rfl ?_
      refine pr_getR hA f_X8_32 rfl (mo_k0 hm) (mo_f0_14 hm) dX8_laysPrices_36 ?_
      refine pr_iload_n hA dX8_laysPrices_39 rfl ?_
      refine pr_iconst hA (0) dX8_laysPrices_40 (by decide) ?_
      refine pr_iastE (I' := (rg_put I m 16 (pr_up (m_lp_it2 σ t u (mnn σ)) 8 t.toNatClampNeg (0 : Int32)))) hA (mo_k8 hm) ht (rg_up (by decide)) dX8_laysPrices_41 ?_
      refine pr_aload_n hA dX8_laysPrices_42 rfl ?_
      refine pr_getR hA f_X8_35 rfl (mo_k0 hm) (mo_f0_15 hm) dX8_laysPrices_43 ?_
      refine pr_iload_n hA dX8_laysPrices_46 rfl ?_
      refine pr_iconst hA (0) dX8_laysPrices_47 (by decide) ?_
      refine pr_iastE (I' := (rg_put I m 16 (pr_up (pr_up (m_lp_it2 σ t u (mnn σ)) 8 t.toNatClampNeg (0 : Int32)) 9 t.toNatClampNeg (0 : Int32)))) hA (mo_k9 hm) ht (rg_up (by decide)) dX8_laysPrices_48 ?_
      refine pr_iconst hA (nI 1) dX8_laysPrices_49 (by decide) ?_
      refine pr_istore_n (ls' := [_, _, _, _, _]) hA dX8_laysPrices_50 (by decide) rfl ?_
      have lp51 : ∀ (j k : Nat), (sl 13) - k = j → k ≤ (sl 13) → pr_G g X mX8_laysPrices.2.2.1 (pr_MQ g X (pr_R none T (rg_put I m 16 (m_lp σ t u)) L) pr_no 0 0) 0 0 51 [.ref m, .int t, .int u, .int ((m_lp_it51 σ t u k).2), .null] [] T (rg_put I m 16 (m_lp_it51 σ t u k).1) L := by
        intro j
        induction j using Nat.strongRecOn with | ind j ih51 =>
        intro k hj51 hk51
        refine pr_iload_n hA dX8_laysPrices_51 rfl ?_
        refine pr_if_eq hA 162 dX8_laysPrices_52 (by decide) (fun c_52 => ?_) (fun c_52 => ?_)
        · have hst := st_m_lp_it51_52 c_52 ((sl 13) - k)
          rw [show k + ((sl 13) - k) = (sl 13) from by omega] at hst
          refine pr_lessL (ls' := [.ref m, .int t, .int u, .int ((m_lp_it51 σ t u k).2), .null]) ⟨.inr rfl, .inr rfl, .inr rfl, .inr rfl, .inl rfl, trivial⟩ ?_
          rw [← hst]
          exact pr_return hA rfl (Nat.zero_le _) (Nat.zero_le _) dX8_laysPrices_162 ⟨rfl, rfl, rfl, rfl⟩
        · refine pr_iconst hA (nI 0) dX8_laysPrices_55 (by decide) ?_
          refine pr_istore_n (ls' := [_, _, _, _, _]) hA dX8_laysPrices_56 (by decide) rfl ?_
          refine pr_iconst hA (nI 0) dX8_laysPrices_57 (by decide) ?_
          refine pr_istore (ls' := [_, _, _, _, _]) hA dX8_laysPrices_58 (by decide) rfl ?_
          have lp60 : ∀ (j k1 : Nat), (mln σ) - k1 = j → k1 ≤ (mln σ) → pr_G g X mX8_laysPrices.2.2.1 (pr_MQ g X (pr_R none T (rg_put I m 16 (m_lp σ t u)) L) pr_no 0 0) 0 0 60 [.ref m, .int t, .int u, .int ((m_lp_it60 σ (m_lp_it51 σ t u k).1 t u k k1).2), .int (nI k1)] [] T (rg_put I m 16 (m_lp_it60 σ (m_lp_it51 σ t u k).1 t u k k1).1) L := by
            intro j
            induction j using Nat.strongRecOn with | ind j ih60 =>
            intro k1 hj60 hk60
            refine pr_iload hA dX8_laysPrices_60 rfl ?_
            refine pr_aload_n hA dX8_laysPrices_62 rfl ?_
            refine pr_getR hA f_X8_9 rfl (mo_k0 hm) (mo_f0_0 hm) dX8_laysPrices_63 ?_
            refine pr_bipush hA (nI 7) dX8_laysPrices_66 (by decide) ?_
            refine pr_ialdM (v := (nI (mln σ))) hA (mo_k1 hm) (by omega) (by omega) ((rg_val (by decide)).trans ((congrFun (fr_m_lp_it60 (by decide)) _).trans ((congrFun (fr_m_lp_it51 (by decide)) _).trans ((pr_upv (by decide)).trans ((pr_upv (by decide)).trans ((congrFun (fr_m_lp_it2 (by decide)) _).trans (mI_nl hI))))))) dX8_laysPrices_68 ?_
            refine pr_icmp_ge hA 159 dX8_laysPrices_69 (by decide) (fun c_69 => ?_) (fun c_69 => ?_)
            · have n_69 : (mln σ) ≤ k1 := (nI_leI (by omega) (by omega)).mp c_69
              have hex : (mln σ) = k1 := by omega
              subst hex
              refine pr_goto hA 51 dX8_laysPrices_159 (by decide) ?_
              have hlt : k < (sl 13) := by
                rcases Nat.lt_or_ge k (sl 13) with hlt0 | hlt0
                · exact hlt0
                · have e : k = (sl 13) := by omega
                  exact absurd hend (by rw [← e]; simp only [m_lp_it51_e, if_neg c_52]; decide)
              have hb := ih51 ((sl 13) - (k + 1)) (by omega) (k + 1) rfl (by omega)
              simp only [m_lp_it51, if_neg c_52] at hb
              exact pr_lessL (ls' := [.ref m, .int t, .int u, .int ((m_lp_it60 σ (m_lp_it51 σ t u k).1 t u k (mln σ)).2), .null]) ⟨.inr rfl, .inr rfl, .inr rfl, .inr rfl, .inl rfl, trivial⟩ hb
            · have n_69 : ¬ (mln σ) ≤ k1 := fun q => c_69 ((nI_leI (by omega) (by omega)).mpr q)
              refine pr_iload_n hA dX8_laysPrices_72 rfl ?_
              refine pr_iload hA dX8_laysPrices_73 rfl ?_
              refine pr_callSi hA [.int u, .int (nI k1)] (c_m_has (m := m) (σ := (m_lp_it60 σ (m_lp_it51 σ t u k).1 t u k k1).1) (s := u) (k := (nI k1)) (pr_hl hA) hm) s_X8_213 rfl (by decide) (Nat.zero_le _) (Nat.zero_le _) rfl (Nat.le_of_ble_eq_true rfl) dX8_laysPrices_75 ?_
              refine pr_if_eq hA 153 dX8_laysPrices_78 (by decide) (fun c_78 => ?_) (fun c_78 => ?_)
              · refine pr_iinc (ls' := [_, _, _, _, _]) hA (nI (k1 + 1)) dX8_laysPrices_153 (by decide) rfl (nI_inc _) rfl ?_
                refine pr_goto hA 60 dX8_laysPrices_156 (by decide) ?_
                have hb := ih60 ((mln σ) - (k1 + 1)) (by omega) (k1 + 1) rfl (by omega)
                simp only [m_lp_it60, if_pos c_78] at hb
                exact hb
              · refine pr_aload_n hA dX8_laysPrices_81 rfl ?_
                refine pr_iload hA dX8_laysPrices_82 rfl ?_
                have hv84 : mI (m_lp_it60 σ (m_lp_it51 σ t u k).1 t u k k1).1 := (mI_89 (mI_89 (mI.upn (mI.upn (mI_89 hI (fun h => fr_m_lp_it2 h)) rfl) rfl) (fun h => fr_m_lp_it51 h)) (fun h => fr_m_lp_it60 h))
                refine pr_callVi hA [.int (nI k1)] (c_m_sh (m := m) (σ := (m_lp_it60 σ (m_lp_it51 σ t u k).1 t u k k1).1) (lk := k1) (pr_hl hA) hm hv84 (by first | omega | assumption)) v_X8_216 (mo_k0 hm) (by decide) rfl rfl rfl (by decide) (Nat.zero_le _) (Nat.zero_le _) rfl (Nat.le_of_ble_eq_true rfl) dX8_laysPrices_84 ?_
                refine pr_if_ne hA 93 dX8_laysPrices_87 (by decide) (fun c_87 => ?_) (fun c_87 => ?_)
                · refine pr_aload_n hA dX8_laysPrices_93 rfl ?_
                  refine pr_getR hA f_X8_32 rfl (mo_k0 hm) (mo_f0_14 hm) dX8_laysPrices_94 ?_
                  refine pr_aload_n hA dX8_laysPrices_97 rfl ?_
                  refine pr_iload hA dX8_laysPrices_98 rfl ?_
                  refine pr_iconst hA (0) dX8_laysPrices_100 (by decide) ?_
                  refine pr_callVi hA [.int (nI k1), .int (0 : Int32)] (c_m_link (m := m) (k := k1) (c := 0) (σ := (m_lp_it60 σ (m_lp_it51 σ t u k).1 t u k k1).1) (pr_hl hA) hm (by omega) (by omega)) v_X8_204 (mo_k0 hm) (by decide) rfl rfl rfl (by decide) (Nat.zero_le _) (Nat.zero_le _) rfl (Nat.le_of_ble_eq_true rfl) dX8_laysPrices_101 ?_
                  rw [show ((m_lp_it60 σ (m_lp_it51 σ t u k).1 t u k k1).1 1 (96 + 7 * k1 + 0)) = (σ 1 (96 + 7 * k1 + 0)) from ((congrFun (fr_m_lp_it60 (by decide)) _).trans ((congrFun (fr_m_lp_it51 (by decide)) _).trans ((pr_upv (by decide)).trans ((pr_upv (by decide)).trans (congrFun (fr_m_lp_it2 (by decide)) _)))))]
                  refine pr_aload_n hA dX8_laysPrices_104 rfl ?_
                  refine pr_getR hA f_X8_32 rfl (mo_k0 hm) (mo_f0_14 hm) dX8_laysPrices_105 ?_
                  refine pr_aload_n hA dX8_laysPrices_108 rfl ?_
                  refine pr_iload hA dX8_laysPrices_109 rfl ?_
                  refine pr_iconst hA (1) dX8_laysPrices_111 (by decide) ?_
                  refine pr_callVi hA [.int (nI k1), .int (1 : Int32)] (c_m_link (m := m) (k := k1) (c := 1) (σ := (m_lp_it60 σ (m_lp_it51 σ t u k).1 t u k k1).1) (pr_hl hA) hm (by omega) (by omega)) v_X8_204 (mo_k0 hm) (by decide) rfl rfl rfl (by decide) (Nat.zero_le _) (Nat.zero_le _) rfl (Nat.le_of_ble_eq_true rfl) dX8_laysPrices_112 ?_
                  rw [show ((m_lp_it60 σ (m_lp_it51 σ t u k).1 t u k k1).1 1 (96 + 7 * k1 + 1)) = (σ 1 (96 + 7 * k1 + 1)) from ((congrFun (fr_m_lp_it60 (by decide)) _).trans ((congrFun (fr_m_lp_it51 (by decide)) _).trans ((pr_upv (by decide)).trans ((pr_upv (by decide)).trans (congrFun (fr_m_lp_it2 (by decide)) _)))))]
                  refine pr_ialdE (v := ((m_lp_it60 σ (m_lp_it51 σ t u k).1 t u k k1).1 8 ((σ 1 (96 + 7 * k1 + 1)).toNatClampNeg))) hA (mo_k8 hm) (hfl k1 (by omega)).2 (rg_val (by decide)) dX8_laysPrices_115 ?_
                  refine pr_aload_n hA dX8_laysPrices_116 rfl ?_
                  refine pr_iload hA dX8_laysPrices_117 rfl ?_
                  refine pr_iconst hA (3) dX8_laysPrices_119 (by decide) ?_
                  refine pr_callVi hA [.int (nI k1), .int (3 : Int32)] (c_m_link (m := m) (k := k1) (c := 3) (σ := (m_lp_it60 σ (m_lp_it51 σ t u k).1 t u k k1).1) (pr_hl hA) hm (by omega) (by omega)) v_X8_204 (mo_k0 hm) (by decide) rfl rfl rfl (by decide) (Nat.zero_le _) (Nat.zero_le _) rfl (Nat.le_of_ble_eq_true rfl) dX8_laysPrices_120 ?_
                  rw [show ((m_lp_it60 σ (m_lp_it51 σ t u k).1 t u k k1).1 1 (96 + 7 * k1 + 3)) = (σ 1 (96 + 7 * k1 + 3)) from ((congrFun (fr_m_lp_it60 (by decide)) _).trans ((congrFun (fr_m_lp_it51 (by decide)) _).trans ((pr_upv (by decide)).trans ((pr_upv (by decide)).trans (congrFun (fr_m_lp_it2 (by decide)) _)))))]
                  refine pr_iadd hA dX8_laysPrices_123 ?_
                  refine pr_iastE (I' := (rg_put I m 16 (pr_up (m_lp_it60 σ (m_lp_it51 σ t u k).1 t u k k1).1 8 ((σ 1 (96 + 7 * k1 + 0)).toNatClampNeg) (((m_lp_it60 σ (m_lp_it51 σ t u k).1 t u k k1).1 8 ((σ 1 (96 + 7 * k1 + 1)).toNatClampNeg)) + (σ 1 (96 + 7 * k1 + 3)))))) hA (mo_k8 hm) (hfl k1 (by omega)).1 (rg_up (by decide)) dX8_laysPrices_124 ?_
                  refine pr_aload_n hA dX8_laysPrices_125 rfl ?_
                  refine pr_getR hA f_X8_35 rfl (mo_k0 hm) (mo_f0_15 hm) dX8_laysPrices_126 ?_
                  refine pr_aload_n hA dX8_laysPrices_129 rfl ?_
                  refine pr_iload hA dX8_laysPrices_130 rfl ?_
                  refine pr_iconst hA (0) dX8_laysPrices_132 (by decide) ?_
                  refine pr_callVi hA [.int (nI k1), .int (0 : Int32)] (c_m_link (m := m) (k := k1) (c := 0) (σ := (pr_up (m_lp_it60 σ (m_lp_it51 σ t u k).1 t u k k1).1 8 ((σ 1 (96 + 7 * k1 + 0)).toNatClampNeg) (((m_lp_it60 σ (m_lp_it51 σ t u k).1 t u k k1).1 8 ((σ 1 (96 + 7 * k1 + 1)).toNatClampNeg)) + (σ 1 (96 + 7 * k1 + 3))))) (pr_hl hA) hm (by omega) (by omega)) v_X8_204 (mo_k0 hm) (by decide) rfl rfl rfl (by decide) (Nat.zero_le _) (Nat.zero_le _) rfl (Nat.le_of_ble_eq_true rfl) dX8_laysPrices_133 ?_
                  rw [show ((pr_up (m_lp_it60 σ (m_lp_it51 σ t u k).1 t u k k1).1 8 ((σ 1 (96 + 7 * k1 + 0)).toNatClampNeg) (((m_lp_it60 σ (m_lp_it51 σ t u k).1 t u k k1).1 8 ((σ 1 (96 + 7 * k1 + 1)).toNatClampNeg)) + (σ 1 (96 + 7 * k1 + 3)))) 1 (96 + 7 * k1 + 0)) = (σ 1 (96 + 7 * k1 + 0)) from ((pr_upv (by decide)).trans ((congrFun (fr_m_lp_it60 (by decide)) _).trans ((congrFun (fr_m_lp_it51 (by decide)) _).trans ((pr_upv (by decide)).trans ((pr_upv (by decide)).trans (congrFun (fr_m_lp_it2 (by decide)) _))))))]
                  refine pr_aload_n hA dX8_laysPrices_136 rfl ?_
                  refine pr_getR hA f_X8_35 rfl (mo_k0 hm) (mo_f0_15 hm) dX8_laysPrices_137 ?_
                  refine pr_aload_n hA dX8_laysPrices_140 rfl ?_
                  refine pr_iload hA dX8_laysPrices_141 rfl ?_
                  refine pr_iconst hA (1) dX8_laysPrices_143 (by decide) ?_
                  refine pr_callVi hA [.int (nI k1), .int (1 : Int32)] (c_m_link (m := m) (k := k1) (c := 1) (σ := (pr_up (m_lp_it60 σ (m_lp_it51 σ t u k).1 t u k k1).1 8 ((σ 1 (96 + 7 * k1 + 0)).toNatClampNeg) (((m_lp_it60 σ (m_lp_it51 σ t u k).1 t u k k1).1 8 ((σ 1 (96 + 7 * k1 + 1)).toNatClampNeg)) + (σ 1 (96 + 7 * k1 + 3))))) (pr_hl hA) hm (by omega) (by omega)) v_X8_204 (mo_k0 hm) (by decide) rfl rfl rfl (by decide) (Nat.zero_le _) (Nat.zero_le _) rfl (Nat.le_of_ble_eq_true rfl) dX8_laysPrices_144 ?_
                  rw [show ((pr_up (m_lp_it60 σ (m_lp_it51 σ t u k).1 t u k k1).1 8 ((σ 1 (96 + 7 * k1 + 0)).toNatClampNeg) (((m_lp_it60 σ (m_lp_it51 σ t u k).1 t u k k1).1 8 ((σ 1 (96 + 7 * k1 + 1)).toNatClampNeg)) + (σ 1 (96 + 7 * k1 + 3)))) 1 (96 + 7 * k1 + 1)) = (σ 1 (96 + 7 * k1 + 1)) from ((pr_upv (by decide)).trans ((congrFun (fr_m_lp_it60 (by decide)) _).trans ((congrFun (fr_m_lp_it51 (by decide)) _).trans ((pr_upv (by decide)).trans ((pr_upv (by decide)).trans (congrFun (fr_m_lp_it2 (by decide)) _))))))]
                  refine pr_ialdE (v := ((m_lp_it60 σ (m_lp_it51 σ t u k).1 t u k k1).1 9 ((σ 1 (96 + 7 * k1 + 1)).toNatClampNeg))) hA (mo_k9 hm) (hfl k1 (by omega)).2 ((rg_val (by decide)).trans (pr_upv (by decide))) dX8_laysPrices_147 ?_
                  refine pr_iconst hA (1) dX8_laysPrices_148 (by decide) ?_
                  refine pr_iadd hA dX8_laysPrices_149 ?_
                  refine pr_iastE (I' := (rg_put I m 16 (pr_up (pr_up (m_lp_it60 σ (m_lp_it51 σ t u k).1 t u k k1).1 8 ((σ 1 (96 + 7 * k1 + 0)).toNatClampNeg) (((m_lp_it60 σ (m_lp_it51 σ t u k).1 t u k k1).1 8 ((σ 1 (96 + 7 * k1 + 1)).toNatClampNeg)) + (σ 1 (96 + 7 * k1 + 3)))) 9 ((σ 1 (96 + 7 * k1 + 0)).toNatClampNeg) (((m_lp_it60 σ (m_lp_it51 σ t u k).1 t u k k1).1 9 ((σ 1 (96 + 7 * k1 + 1)).toNatClampNeg)) + (1 : Int32))))) hA (mo_k9 hm) (hfl k1 (by omega)).1 (rg_up (by decide)) dX8_laysPrices_150 ?_
                  refine pr_iconst hA (nI 1) dX8_laysPrices_151 (by decide) ?_
                  refine pr_istore_n (ls' := [_, _, _, _, _]) hA dX8_laysPrices_152 (by decide) rfl ?_
                  refine pr_iinc (ls' := [_, _, _, _, _]) hA (nI (k1 + 1)) dX8_laysPrices_153 (by decide) rfl (nI_inc _) rfl ?_
                  refine pr_goto hA 60 dX8_laysPrices_156 (by decide) ?_
                  have hb := ih60 ((mln σ) - (k1 + 1)) (by omega) (k1 + 1) rfl (by omega)
                  simp only [m_lp_it60, if_neg c_78, if_neg c_87] at hb
                  exact hb
                · refine pr_goto hA 153 dX8_laysPrices_90 (by decide) ?_
                  refine pr_iinc (ls' := [_, _, _, _, _]) hA (nI (k1 + 1)) dX8_laysPrices_153 (by decide) rfl (nI_inc _) rfl ?_
                  refine pr_goto hA 60 dX8_laysPrices_156 (by decide) ?_
                  have hb := ih60 ((mln σ) - (k1 + 1)) (by omega) (k1 + 1) rfl (by omega)
                  simp only [m_lp_it60, if_neg c_78, if_pos c_87] at hb
                  exact hb
          exact (lp60 ((mln σ) - 0) 0 rfl (by omega))
      exact (lp51 ((sl 13) - 0) 0 rfl (by omega))
    · have n_10 : ¬ (mnn σ) ≤ k := fun q => c_10 ((nI_leI (by omega) (by omega)).mpr q)
      refine pr_aload_n hA dX8_laysPrices_13 rfl ?_
      refine pr_getR hA f_X8_32 rfl (mo_k0 hm) (mo_f0_14 hm) dX8_laysPrices_14 ?_
      refine pr_iload_n hA dX8_laysPrices_17 rfl ?_
      refine pr_ldc hA kK_X8_212 dX8_laysPrices_18 ?_
      refine pr_iastM (I' := (rg_put I m 16 (pr_up (m_lp_it2 σ t u k) 8 k (1000000000 : Int32)))) hA (mo_k8 hm) (by omega) (by omega) (rg_up (by decide)) dX8_laysPrices_20 ?_
      refine pr_aload_n hA dX8_laysPrices_21 rfl ?_
      refine pr_getR hA f_X8_35 rfl (mo_k0 hm) (mo_f0_15 hm) dX8_laysPrices_22 ?_
      refine pr_iload_n hA dX8_laysPrices_25 rfl ?_
      refine pr_ldc hA kK_X8_212 dX8_laysPrices_26 ?_
      refine pr_iastM (I' := (rg_put I m 16 (pr_up (pr_up (m_lp_it2 σ t u k) 8 k (1000000000 : Int32)) 9 k (1000000000 : Int32)))) hA (mo_k9 hm) (by omega) (by omega) (rg_up (by decide)) dX8_laysPrices_28 ?_
      refine pr_iinc (ls' := [_, _, _, _, _]) hA (nI (k + 1)) dX8_laysPrices_29 (by decide) rfl (nI_inc _) rfl ?_
      refine pr_goto hA 2 dX8_laysPrices_32 (by decide) ?_
      have hb := ih2 ((mnn σ) - (k + 1)) (by omega) (k + 1) rfl (by omega)
      simp only [m_lp_it2] at hb
      exact hb
  exact (lp2 ((mnn σ) - 0) 0 rfl (by omega))

theorem fr_m_lp {σ : pr_I} {t : Int32} {u : Int32} {o : Nat} (hms : ∀ m ∈ ([8, 9] : List Nat), o ≠ m) : m_lp σ t u o = σ o := by
  unfold m_lp
  simp only [List.mem_cons, List.not_mem_nil, or_false, forall_eq_or_imp, forall_eq] at hms
  rw [fr_m_lp_it51 (by simp only [List.mem_cons, List.not_mem_nil, or_false, forall_eq_or_imp, forall_eq]; omega), pr_up_ne (by omega), pr_up_ne (by omega), fr_m_lp_it2 (by simp only [List.mem_cons, List.not_mem_nil, or_false, forall_eq_or_imp, forall_eq]; omega)]

