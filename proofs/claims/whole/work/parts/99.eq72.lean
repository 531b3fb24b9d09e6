/-! APPEND OF THE REFERENCE, where the text has room -/
set_option maxRecDepth 100000 in
set_option maxHeartbeats 400000 in
theorem c_mf_append2 {g : pr_C} {l : Launch} (hl : l.stackTraces = false) {T : pr_T} {I : pr_I} {L : pr_L} {m : Nat} {σ : pr_I} {n : Nat} {q : Int64} (hm : pr_Mo T m) (hI : mI σ) (hn : σ 0 8 = nI n) (hn7 : n ≤ 700) (hbb : ((nI n) + ((mf_append_it11 σ n q (sl 8)).1)) ≤ (700 : Int32) → ∀ k, k < 8 → ¬ ((((q.toUInt64 >>> ((((mf_append_it62 σ n q k).2)).toInt64.toUInt64 &&& Int64.toUInt64 63)).toInt64 &&& (255 : Int64))).toInt32) = 0 → vp_in ((mf_append_it62 σ n q k).1 0 8) 700) : pr_M g l 12 0 0 mX8_append [.ref m, .long q] T (rg_put I m 16 σ) L (pr_R (some (.int (mf_append_r σ n q))) T (rg_put I m 16 (mf_append σ n q)) L) pr_no := by
  refine pr_ofG (by decide) rfl hl (Nat.le_of_ble_eq_true rfl) (fun X hA hX hXn hXt => ?_)
  subst hX
  show pr_G g X mX8_append.2.2.1 _ 0 0 0 [.ref m, .long q, .null, .null, .null, .null] [] T (rg_put I m 16 σ) L
  have hn5 := mI_n5 hI
  have hr4 := mI_nr4 hI
  have hl24 := mI_nl24 hI
  have hn12 := mI_nn12 hI
  have hsl8 := sl_eq 8
  refine pr_aload_n hA dX8_append_0 rfl ?_
  refine pr_iconst hA (0) dX8_append_1 (by decide) ?_
  refine pr_putE (I' := (rg_put I m 16 (pr_up σ 0 6 (0 : Int32)))) hA f_X8_60 rfl (mo_k0 hm) (rg_up0 (by decide)) dX8_append_2 ?_
  refine pr_iconst hA (0) dX8_append_5 (by decide) ?_
  refine pr_istore_n (ls' := [_, _, _, _, _, _]) hA dX8_append_6 (by decide) rfl ?_
  refine pr_bipush hA (56) dX8_append_7 (by decide) ?_
  refine pr_istore (ls' := [_, _, _, _, _, _]) hA dX8_append_9 (by decide) rfl ?_
  have lp11 : ∀ (j k : Nat), (sl 8) - k = j → k ≤ (sl 8) → pr_G g X mX8_append.2.2.1 (pr_MQ g X (pr_R (some (.int (mf_append_r σ n q))) T (rg_put I m 16 (mf_append σ n q)) L) pr_no 0 0) 0 0 11 [.ref m, .long q, .null, .int ((mf_append_it11 σ n q k).1), .int ((mf_append_it11 σ n q k).2), .null] [] T (rg_put I m 16 (pr_up σ 0 6 (0 : Int32))) L := by
    intro j
    induction j using Nat.strongRecOn with | ind j ih11 =>
    intro k hj11 hk11
    refine pr_iload hA dX8_append_11 rfl ?_
    refine pr_if_lt hA 43 dX8_append_13 (by decide) (fun c_13 => ?_) (fun c_13 => ?_)
    · have hst := st_mf_append_it11_13 c_13 ((sl 8) - k)
      rw [show k + ((sl 8) - k) = (sl 8) from by omega] at hst
      refine pr_lessL (ls' := [.ref m, .long q, .null, .int ((mf_append_it11 σ n q k).1), .int ((mf_append_it11 σ n q k).2), .null]) ⟨.inr rfl, .inr rfl, .inl rfl, .inr rfl, .inr rfl, .inl rfl, trivial⟩ ?_
      rw [← hst]
      refine pr_aload_n hA dX8_append_43 rfl ?_
      refine pr_getE (v := (nI n)) hA f_X8_66 rfl (mo_k0 hm) ((rg_val0 (by decide)).trans ((pr_upk (by decide)).trans hn)) dX8_append_44 ?_
      refine pr_iload_n hA dX8_append_47 rfl ?_
      refine pr_iadd hA dX8_append_48 ?_
      refine pr_sipush hA (700) dX8_append_49 (by decide) ?_
      refine pr_icmp_le hA 58 dX8_append_52 (by decide) (fun c_52 => ?_) (fun c_52 => ?_)
      · refine pr_bipush hA (56) dX8_append_58 (by decide) ?_
        refine pr_istore (ls' := [_, _, _, _, _, _]) hA dX8_append_60 (by decide) rfl ?_
        have lp62 : ∀ (j k : Nat), (sl 8) - k = j → k ≤ (sl 8) → pr_G g X mX8_append.2.2.1 (pr_MQ g X (pr_R (some (.int (mf_append_r σ n q))) T (rg_put I m 16 (mf_append σ n q)) L) pr_no 0 0) 0 0 62 [.ref m, .long q, .null, .int ((mf_append_it11 σ n q (sl 8)).1), .int ((mf_append_it62 σ n q k).2), .null] [] T (rg_put I m 16 (mf_append_it62 σ n q k).1) L := by
          intro j
          induction j using Nat.strongRecOn with | ind j ih62 =>
          intro k hj62 hk62
          refine pr_iload hA dX8_append_62 rfl ?_
          refine pr_if_lt hA 113 dX8_append_64 (by decide) (fun c_64 => ?_) (fun c_64 => ?_)
          · have hst := st_mf_append_it62_64 c_64 ((sl 8) - k)
            rw [show k + ((sl 8) - k) = (sl 8) from by omega] at hst
            refine pr_lessL (ls' := [.ref m, .long q, .null, .int ((mf_append_it11 σ n q (sl 8)).1), .int ((mf_append_it62 σ n q k).2), .null]) ⟨.inr rfl, .inr rfl, .inl rfl, .inr rfl, .inr rfl, .inl rfl, trivial⟩ ?_
            rw [← hst]
            refine pr_aload_n hA dX8_append_113 rfl ?_
            refine pr_getE (v := ((mf_append_it62 σ n q (sl 8)).1 0 8)) hA f_X8_66 rfl (mo_k0 hm) (rg_val0 (by decide)) dX8_append_114 ?_
            exact pr_ireturn hA rfl rfl (Nat.zero_le _) (Nat.zero_le _) dX8_append_117 ⟨(by simp only [mf_append_r, if_pos c_52]), rfl, (by simp only [mf_append, if_pos c_52]), rfl⟩
          · refine pr_lload_n hA dX8_append_67 rfl ?_
            refine pr_iload hA dX8_append_68 rfl ?_
            refine pr_lushr hA dX8_append_70 ?_
            refine pr_ldc2 hA kK_X8_64 dX8_append_71 ?_
            refine pr_land hA dX8_append_74 ?_
            refine pr_l2i hA dX8_append_75 ?_
            refine pr_istore (ls' := [_, _, _, _, _, _]) hA dX8_append_76 (by decide) rfl ?_
            refine pr_iload hA dX8_append_78 rfl ?_
            refine pr_if_ne hA 86 dX8_append_80 (by decide) (fun c_80 => ?_) (fun c_80 => ?_)
            · refine pr_aload_n hA dX8_append_86 rfl ?_
              refine pr_getR hA f_X8_29 rfl (mo_k0 hm) (mo_f0_7 hm) dX8_append_87 ?_
              refine pr_aload_n hA dX8_append_90 rfl ?_
              refine pr_getE (v := ((mf_append_it62 σ n q k).1 0 8)) hA f_X8_66 rfl (mo_k0 hm) (rg_val0 (by decide)) dX8_append_91 ?_
              refine pr_iload hA dX8_append_94 rfl ?_
              refine pr_iastE (I' := (rg_put I m 16 (pr_up (mf_append_it62 σ n q k).1 7 (((mf_append_it62 σ n q k).1 0 8).toNatClampNeg) ((((q.toUInt64 >>> ((((mf_append_it62 σ n q k).2)).toInt64.toUInt64 &&& Int64.toUInt64 63)).toInt64 &&& (255 : Int64))).toInt32)))) hA (mo_k7 hm) (hbb c_52 k (by have h8 := sl_eq 8; rcases Nat.lt_or_ge k (sl 8) with q9 | q9; omega; exact absurd ad_sh_8 (by rw [← ap_s2 (σ := σ) (n := n) (q := q) 8 (by omega), show (8 : Nat) = k from by omega]; first | exact c_64 | exact Int32.not_lt.mp c_64)) c_80) (rg_up (by decide)) dX8_append_96 ?_
              refine pr_aload_n hA dX8_append_97 rfl ?_
              refine pr_dup hA dX8_append_98 rfl ?_
              refine pr_getE (v := ((mf_append_it62 σ n q k).1 0 8)) hA f_X8_66 rfl (mo_k0 hm) ((rg_val0 (by decide)).trans (pr_upv (by decide))) dX8_append_99 ?_
              refine pr_iconst hA (1) dX8_append_102 (by decide) ?_
              refine pr_iadd hA dX8_append_103 ?_
              refine pr_putE (I' := (rg_put I m 16 (pr_up (pr_up (mf_append_it62 σ n q k).1 7 (((mf_append_it62 σ n q k).1 0 8).toNatClampNeg) ((((q.toUInt64 >>> ((((mf_append_it62 σ n q k).2)).toInt64.toUInt64 &&& Int64.toUInt64 63)).toInt64 &&& (255 : Int64))).toInt32)) 0 8 (((mf_append_it62 σ n q k).1 0 8) + (1 : Int32))))) hA f_X8_66 rfl (mo_k0 hm) (rg_up0 (by decide)) dX8_append_104 ?_
              refine pr_iinc (ls' := [_, _, _, _, _, _]) hA (((mf_append_it62 σ n q k).2) + Int32.ofInt (-8)) dX8_append_107 (by decide) rfl rfl rfl ?_
              refine pr_goto hA 62 dX8_append_110 (by decide) ?_
              have hlt : k < (sl 8) := by
                rcases Nat.lt_or_ge k (sl 8) with hlt0 | hlt0
                · exact hlt0
                · have e : k = (sl 8) := by omega
                  exact absurd (ap_e2 (σ := σ) (n := n) (q := q)) (by rw [← e]; simp only [mf_append_it62_e, if_neg c_64, if_neg c_80]; decide)
              have hb := ih62 ((sl 8) - (k + 1)) (by omega) (k + 1) rfl (by omega)
              simp only [mf_append_it62, if_neg c_64, if_neg c_80] at hb
              exact pr_lessL (ls' := [.ref m, .long q, .null, .int ((mf_append_it11 σ n q (sl 8)).1), .int (((mf_append_it62 σ n q k).2) + Int32.ofInt (-8)), .null]) ⟨.inr rfl, .inr rfl, .inl rfl, .inr rfl, .inr rfl, .inl rfl, trivial⟩ hb
            · refine pr_goto hA 107 dX8_append_83 (by decide) ?_
              refine pr_iinc (ls' := [_, _, _, _, _, _]) hA (((mf_append_it62 σ n q k).2) + Int32.ofInt (-8)) dX8_append_107 (by decide) rfl rfl rfl ?_
              refine pr_goto hA 62 dX8_append_110 (by decide) ?_
              have hlt : k < (sl 8) := by
                rcases Nat.lt_or_ge k (sl 8) with hlt0 | hlt0
                · exact hlt0
                · have e : k = (sl 8) := by omega
                  exact absurd (ap_e2 (σ := σ) (n := n) (q := q)) (by rw [← e]; simp only [mf_append_it62_e, if_neg c_64, if_pos c_80]; decide)
              have hb := ih62 ((sl 8) - (k + 1)) (by omega) (k + 1) rfl (by omega)
              simp only [mf_append_it62, if_neg c_64, if_pos c_80] at hb
              exact pr_lessL (ls' := [.ref m, .long q, .null, .int ((mf_append_it11 σ n q (sl 8)).1), .int (((mf_append_it62 σ n q k).2) + Int32.ofInt (-8)), .null]) ⟨.inr rfl, .inr rfl, .inl rfl, .inr rfl, .inr rfl, .inl rfl, trivial⟩ hb
        exact (lp62 ((sl 8) - 0) 0 rfl (by omega))
      · refine pr_bipush hA ((-2)) dX8_append_55 (by decide) ?_
        exact pr_ireturn hA rfl rfl (Nat.zero_le _) (Nat.zero_le _) dX8_append_57 ⟨(by simp only [mf_append_r, if_neg c_52]), rfl, (by simp only [mf_append, if_neg c_52]), rfl⟩
    · refine pr_iload_n hA dX8_append_16 rfl ?_
      refine pr_lload_n hA dX8_append_17 rfl ?_
      refine pr_iload hA dX8_append_18 rfl ?_
      refine pr_lushr hA dX8_append_20 ?_
      refine pr_ldc2 hA kK_X8_64 dX8_append_21 ?_
      refine pr_land hA dX8_append_24 ?_
      refine pr_lconst hA 0 dX8_append_25 (by decide) ?_
      refine pr_lcmp hA dX8_append_26 ?_
      refine pr_join (c := (lg_cmp ((q.toUInt64 >>> ((((mf_append_it11 σ n q k).2)).toInt64.toUInt64 &&& Int64.toUInt64 63)).toInt64 &&& (255 : Int64)) (0 : Int64)) = 0) (J := 35) (st := [.int ((mf_append_it11 σ n q k).1)]) (0 : Int32) (1 : Int32) inferInstance (fun kt kf => ?_) ?_
      · refine pr_if_eq hA 34 dX8_append_27 (by decide) (fun c_27 => ?_) (fun c_27 => ?_)
        · refine pr_iconst hA (0) dX8_append_34 (by decide) ?_
          exact kt c_27
        · refine pr_iconst hA (1) dX8_append_30 (by decide) ?_
          refine pr_goto hA 35 dX8_append_31 (by decide) ?_
          exact kf c_27
      · refine pr_iadd hA dX8_append_35 ?_
        refine pr_istore_n (ls' := [_, _, _, _, _, _]) hA dX8_append_36 (by decide) rfl ?_
        refine pr_iinc (ls' := [_, _, _, _, _, _]) hA (((mf_append_it11 σ n q k).2) + Int32.ofInt (-8)) dX8_append_37 (by decide) rfl rfl rfl ?_
        refine pr_goto hA 11 dX8_append_40 (by decide) ?_
        have hlt : k < (sl 8) := by
          rcases Nat.lt_or_ge k (sl 8) with hlt0 | hlt0
          · exact hlt0
          · have e : k = (sl 8) := by omega
            exact absurd (ap_e1 (σ := σ) (n := n) (q := q)) (by rw [← e]; simp only [mf_append_it11_e, if_neg c_13]; decide)
        have hb := ih11 ((sl 8) - (k + 1)) (by omega) (k + 1) rfl (by omega)
        simp only [mf_append_it11, if_neg c_13] at hb
        exact hb
  exact (lp11 ((sl 8) - 0) 0 rfl (by omega))
