/-- a number that no comparison opens -/
theorem sl_ex (n : Nat) : ∃ m, m = n := ⟨n, rfl⟩
noncomputable def sl (n : Nat) : Nat := (sl_ex n).choose
theorem sl_eq (n : Nat) : sl n = n := (sl_ex n).choose_spec
noncomputable def pt_meas_it3 (σ : pr_I) (nl : Nat) (t : Int32) (u : Int32) : Nat → pr_I
  | 0 => σ
  | k + 1 => (pr_up (pt_meas_it3 σ nl t u k) 118 k (if (nI k) = t then (0 : Int32) else (1000000000 : Int32)))
theorem fr_pt_meas_it3 {σ : pr_I} {nl : Nat} {t : Int32} {u : Int32} {o : Nat} (hms : ∀ m ∈ ([118] : List Nat), o ≠ m) : ∀ {k : Nat}, (pt_meas_it3 σ nl t u k) o = σ o := by
  simp only [List.mem_cons, List.not_mem_nil, or_false, forall_eq_or_imp, forall_eq] at hms
  intro k
  induction k with
  | zero =>
    show σ o = σ o
    rfl
  | succ k ih =>
    show (pr_up (pt_meas_it3 σ nl t u k) 118 k (if (nI k) = t then (0 : Int32) else (1000000000 : Int32))) o = σ o
    rw [pr_up_ne (by omega), ih]

noncomputable def pt_meas_it59 (σ σ1 : pr_I) (nl : Nat) (t : Int32) (u : Int32) (k : Nat) : Nat → pr_I × Int32
  | 0 => (σ1, (nI 0))
  | k1 + 1 => (if ((u >>> ((nI k1) &&& 31)) &&& (1 : Int32)) = 0 then ((pt_meas_it59 σ σ1 nl t u k k1).1, ((pt_meas_it59 σ σ1 nl t u k k1).2)) else (if ((pt_meas_it59 σ σ1 nl t u k k1).1 118 ((σ 2 k1).toNatClampNeg)) ≤ ((((pt_meas_it59 σ σ1 nl t u k k1).1 118 ((σ 3 k1).toNatClampNeg)) + ((σ 5 k1) * (16 : Int32))) + (1 : Int32)) then ((pt_meas_it59 σ σ1 nl t u k k1).1, ((pt_meas_it59 σ σ1 nl t u k k1).2)) else ((pr_up (pt_meas_it59 σ σ1 nl t u k k1).1 118 ((σ 2 k1).toNatClampNeg) ((((pt_meas_it59 σ σ1 nl t u k k1).1 118 ((σ 3 k1).toNatClampNeg)) + ((σ 5 k1) * (16 : Int32))) + (1 : Int32))), (nI 1))))
theorem fr_pt_meas_it59 {σ σ1 : pr_I} {nl : Nat} {t : Int32} {u : Int32} {k : Nat} {o : Nat} (hms : ∀ m ∈ ([118] : List Nat), o ≠ m) : ∀ {k1 : Nat}, (pt_meas_it59 σ σ1 nl t u k k1).1 o = σ1 o := by
  simp only [List.mem_cons, List.not_mem_nil, or_false, forall_eq_or_imp, forall_eq] at hms
  intro k1
  induction k1 with
  | zero =>
    show σ1 o = σ1 o
    rfl
  | succ k1 ih =>
    by_cases c_101 : ((u >>> ((nI k1) &&& 31)) &&& (1 : Int32)) = 0
    · refine (congrFun (congrArg (fun z : pr_I × Int32 => z.1) (if_pos c_101)) o).trans ?_
      show (pt_meas_it59 σ σ1 nl t u k k1).1 o = σ1 o
      rw [ih]
    · refine (congrFun (congrArg (fun z : pr_I × Int32 => z.1) (if_neg c_101)) o).trans ?_
      by_cases c_118 : ((pt_meas_it59 σ σ1 nl t u k k1).1 118 ((σ 2 k1).toNatClampNeg)) ≤ ((((pt_meas_it59 σ σ1 nl t u k k1).1 118 ((σ 3 k1).toNatClampNeg)) + ((σ 5 k1) * (16 : Int32))) + (1 : Int32))
      · refine (congrFun (congrArg (fun z : pr_I × Int32 => z.1) (if_pos c_118)) o).trans ?_
        show (pt_meas_it59 σ σ1 nl t u k k1).1 o = σ1 o
        rw [ih]
      · refine (congrFun (congrArg (fun z : pr_I × Int32 => z.1) (if_neg c_118)) o).trans ?_
        show (pr_up (pt_meas_it59 σ σ1 nl t u k k1).1 118 ((σ 2 k1).toNatClampNeg) ((((pt_meas_it59 σ σ1 nl t u k k1).1 118 ((σ 3 k1).toNatClampNeg)) + ((σ 5 k1) * (16 : Int32))) + (1 : Int32))) o = σ1 o
        rw [pr_up_ne (by omega), ih]

noncomputable def pt_meas_it41 (σ : pr_I) (nl : Nat) (t : Int32) (u : Int32) : Nat → pr_I × Int32
  | 0 => ((pt_meas_it3 σ nl t u (sl 12)), (nI 1))
  | k + 1 => (if ((pt_meas_it41 σ nl t u k).2) = 0 then ((pt_meas_it41 σ nl t u k).1, ((pt_meas_it41 σ nl t u k).2)) else ((pt_meas_it59 σ (pt_meas_it41 σ nl t u k).1 nl t u k nl).1, ((pt_meas_it59 σ (pt_meas_it41 σ nl t u k).1 nl t u k nl).2)))
theorem fr_pt_meas_it41 {σ : pr_I} {nl : Nat} {t : Int32} {u : Int32} {o : Nat} (hms : ∀ m ∈ ([118] : List Nat), o ≠ m) : ∀ {k : Nat}, (pt_meas_it41 σ nl t u k).1 o = (pt_meas_it3 σ nl t u (sl 12)) o := by
  simp only [List.mem_cons, List.not_mem_nil, or_false, forall_eq_or_imp, forall_eq] at hms
  intro k
  induction k with
  | zero =>
    show (pt_meas_it3 σ nl t u (sl 12)) o = (pt_meas_it3 σ nl t u (sl 12)) o
    rfl
  | succ k ih =>
    by_cases c_50 : ((pt_meas_it41 σ nl t u k).2) = 0
    · refine (congrFun (congrArg (fun z : pr_I × Int32 => z.1) (if_pos c_50)) o).trans ?_
      show (pt_meas_it41 σ nl t u k).1 o = (pt_meas_it3 σ nl t u (sl 12)) o
      rw [ih]
    · refine (congrFun (congrArg (fun z : pr_I × Int32 => z.1) (if_neg c_50)) o).trans ?_
      show (pt_meas_it59 σ (pt_meas_it41 σ nl t u k).1 nl t u k nl).1 o = (pt_meas_it3 σ nl t u (sl 12)) o
      rw [fr_pt_meas_it59 (by simp only [List.mem_cons, List.not_mem_nil, or_false, forall_eq_or_imp, forall_eq]; omega), ih]

theorem st_pt_meas_it41_50 {σ : pr_I} {nl : Nat} {t : Int32} {u : Int32} {k : Nat} (c_50 : ((pt_meas_it41 σ nl t u k).2) = 0) : ∀ j, pt_meas_it41 σ nl t u (k + j) = pt_meas_it41 σ nl t u k
  | 0 => rfl
  | j + 1 => by
    have ih := st_pt_meas_it41_50 c_50 j
    show pt_meas_it41 σ nl t u ((k + j) + 1) = pt_meas_it41 σ nl t u k
    simp only [pt_meas_it41, ih, if_pos c_50]
noncomputable def pt_meas (σ : pr_I) (nl : Nat) (t : Int32) (u : Int32) : pr_I := (pt_meas_it41 σ nl t u (sl 12)).1
set_option maxRecDepth 100000 in
set_option maxHeartbeats 4000000 in
theorem c_pt_meas {g : pr_C} {l : Launch} (hl : l.stackTraces = false) {T : pr_T} {I : pr_I} {L : pr_L} {w : Nat} {σ : pr_I} {nl : Nat} {t : Int32} {u : Int32} (hw : pr_W T w) (hnl : σ 1 8 = nI nl) (hnl24 : nl ≤ 24) (hL : ∀ k, k < nl → vp_in (σ 2 k) 12 ∧ vp_in (σ 3 k) 12) : pr_M g l 1 0 0 mX3_measure [.ref (w + 116), .ref (w + 1), .int t, .int u] T (ws_put I w σ) L (pr_R none T (ws_put I w (pt_meas σ nl t u)) L) pr_no := by
  refine pr_ofG (by decide) rfl hl (Nat.le_of_ble_eq_true rfl) (fun X hA hX hXn hXt => ?_)
  subst hX
  show pr_G g X mX3_measure.2.2.1 _ 0 0 0 [.ref (w + 116), .ref (w + 1), .int t, .int u, .null, .null, .null, .null] [] T (ws_put I w σ) L
  have hsl12 := sl_eq 12
  refine pr_iconst hA (nI 0) dX3_measure_0 (by decide) ?_
  refine pr_istore (ls' := [_, _, _, _, _, _, _, _]) hA dX3_measure_1 (by decide) rfl ?_
  have lp3 : ∀ (j k : Nat), (sl 12) - k = j → k ≤ (sl 12) → pr_G g X mX3_measure.2.2.1 (pr_MQ g X (pr_R none T (ws_put I w (pt_meas σ nl t u)) L) pr_no 0 0) 0 0 3 [.ref (w + 116), .ref (w + 1), .int t, .int u, .int (nI k), .null, .null, .null] [] T (ws_put I w (pt_meas_it3 σ nl t u k)) L := by
    intro j
    induction j using Nat.strongRecOn with | ind j ih3 =>
    intro k hj3 hk3
    refine pr_iload hA dX3_measure_3 rfl ?_
    refine pr_bipush hA (nI 12) dX3_measure_5 (by decide) ?_
    refine pr_icmp_ge hA 35 dX3_measure_7 (by decide) (fun c_7 => ?_) (fun c_7 => ?_)
    · have n_7 : 12 ≤ k := (nI_leI (by omega) (by omega)).mp c_7
      have hex : (sl 12) = k := by omega
      subst hex
      refine pr_iconst hA (nI 1) dX3_measure_35 (by decide) ?_
      refine pr_istore (ls' := [_, _, _, _, _, _, _, _]) hA dX3_measure_36 (by decide) rfl ?_
      refine pr_iconst hA (nI 0) dX3_measure_38 (by decide) ?_
      refine pr_istore (ls' := [_, _, _, _, _, _, _, _]) hA dX3_measure_39 (by decide) rfl ?_
      have lp41 : ∀ (j k : Nat), (sl 12) - k = j → k ≤ (sl 12) → pr_G g X mX3_measure.2.2.1 (pr_MQ g X (pr_R none T (ws_put I w (pt_meas σ nl t u)) L) pr_no 0 0) 0 0 41 [.ref (w + 116), .ref (w + 1), .int t, .int u, .int ((pt_meas_it41 σ nl t u k).2), .int (nI k), .null, .null] [] T (ws_put I w (pt_meas_it41 σ nl t u k).1) L := by
        intro j
        induction j using Nat.strongRecOn with | ind j ih41 =>
        intro k hj41 hk41
        refine pr_iload hA dX3_measure_41 rfl ?_
        refine pr_bipush hA (nI 12) dX3_measure_43 (by decide) ?_
        refine pr_icmp_ge hA 150 dX3_measure_45 (by decide) (fun c_45 => ?_) (fun c_45 => ?_)
        · have n_45 : 12 ≤ k := (nI_leI (by omega) (by omega)).mp c_45
          have hex : (sl 12) = k := by omega
          subst hex
          exact pr_return hA rfl (Nat.zero_le _) (Nat.zero_le _) dX3_measure_150 ⟨rfl, rfl, rfl, rfl⟩
        · have n_45 : ¬ 12 ≤ k := fun q => c_45 ((nI_leI (by omega) (by omega)).mpr q)
          refine pr_iload hA dX3_measure_48 rfl ?_
          refine pr_if_eq hA 150 dX3_measure_50 (by decide) (fun c_50 => ?_) (fun c_50 => ?_)
          · have hst := st_pt_meas_it41_50 c_50 ((sl 12) - k)
            rw [show k + ((sl 12) - k) = (sl 12) from by omega] at hst
            refine pr_lessL (ls' := [.ref (w + 116), .ref (w + 1), .int t, .int u, .int ((pt_meas_it41 σ nl t u k).2), .null, .null, .null]) ⟨.inr rfl, .inr rfl, .inr rfl, .inr rfl, .inr rfl, .inl rfl, .inl rfl, .inl rfl, trivial⟩ ?_
            rw [← hst]
            exact pr_return hA rfl (Nat.zero_le _) (Nat.zero_le _) dX3_measure_150 ⟨rfl, rfl, rfl, rfl⟩
          · refine pr_iconst hA (nI 0) dX3_measure_53 (by decide) ?_
            refine pr_istore (ls' := [_, _, _, _, _, _, _, _]) hA dX3_measure_54 (by decide) rfl ?_
            refine pr_iconst hA (nI 0) dX3_measure_56 (by decide) ?_
            refine pr_istore (ls' := [_, _, _, _, _, _, _, _]) hA dX3_measure_57 (by decide) rfl ?_
            have lp59 : ∀ (j k1 : Nat), nl - k1 = j → k1 ≤ nl → pr_G g X mX3_measure.2.2.1 (pr_MQ g X (pr_R none T (ws_put I w (pt_meas σ nl t u)) L) pr_no 0 0) 0 0 59 [.ref (w + 116), .ref (w + 1), .int t, .int u, .int ((pt_meas_it59 σ (pt_meas_it41 σ nl t u k).1 nl t u k k1).2), .int (nI k), .int (nI k1), .null] [] T (ws_put I w (pt_meas_it59 σ (pt_meas_it41 σ nl t u k).1 nl t u k k1).1) L := by
              intro j
              induction j using Nat.strongRecOn with | ind j ih59 =>
              intro k1 hj59 hk59
              refine pr_iload hA dX3_measure_59 rfl ?_
              refine pr_aload_n hA dX3_measure_61 rfl ?_
              refine pr_getE (v := (nI nl)) hA f_X3_36 rfl (wk_1 hw) ((ws_val (by decide)).trans ((congrFun (fr_pt_meas_it59 (by decide)) _).trans ((congrFun (fr_pt_meas_it41 (by decide)) _).trans ((congrFun (fr_pt_meas_it3 (by decide)) _).trans hnl)))) dX3_measure_62 ?_
              refine pr_icmp_ge hA 144 dX3_measure_65 (by decide) (fun c_65 => ?_) (fun c_65 => ?_)
              · have n_65 : nl ≤ k1 := (nI_leI (by omega) (by omega)).mp c_65
                have hex : nl = k1 := by omega
                subst hex
                refine pr_iinc (ls' := [_, _, _, _, _, _, _, _]) hA (nI (k + 1)) dX3_measure_144 (by decide) rfl (nI_inc _) rfl ?_
                refine pr_goto hA 41 dX3_measure_147 (by decide) ?_
                have hb := ih41 ((sl 12) - (k + 1)) (by omega) (k + 1) rfl (by omega)
                simp only [pt_meas_it41, if_neg c_50] at hb
                exact pr_lessL (ls' := [.ref (w + 116), .ref (w + 1), .int t, .int u, .int ((pt_meas_it59 σ (pt_meas_it41 σ nl t u k).1 nl t u k nl).2), .int (nI (k + 1)), .null, .null]) ⟨.inr rfl, .inr rfl, .inr rfl, .inr rfl, .inr rfl, .inr rfl, .inl rfl, .inl rfl, trivial⟩ hb
              · have n_65 : ¬ nl ≤ k1 := fun q => c_65 ((nI_leI (by omega) (by omega)).mpr q)
                refine pr_aload_n hA dX3_measure_68 rfl ?_
                refine pr_getR hA f_X3_19 rfl (wk_116 hw) (wf_116_2 hw) dX3_measure_69 ?_
                refine pr_aload_n hA dX3_measure_72 rfl ?_
                refine pr_getR hA f_X3_31 rfl (wk_1 hw) (wf_1_1 hw) dX3_measure_73 ?_
                refine pr_iload hA dX3_measure_76 rfl ?_
                refine pr_ialdN (v := (σ 3 k1)) hA (wk_3 hw) (by omega) (by omega) ((ws_val (by decide)).trans ((congrFun (fr_pt_meas_it59 (by decide)) _).trans ((congrFun (fr_pt_meas_it41 (by decide)) _).trans (congrFun (fr_pt_meas_it3 (by decide)) _)))) dX3_measure_78 ?_
                refine pr_ialdE (v := ((pt_meas_it59 σ (pt_meas_it41 σ nl t u k).1 nl t u k k1).1 118 ((σ 3 k1).toNatClampNeg))) hA (wk_118 hw) (hL k1 (by omega)).2 (ws_val (by decide)) dX3_measure_79 ?_
                refine pr_aload_n hA dX3_measure_80 rfl ?_
                refine pr_getR hA f_X3_39 rfl (wk_1 hw) (wf_1_3 hw) dX3_measure_81 ?_
                refine pr_iload hA dX3_measure_84 rfl ?_
                refine pr_ialdN (v := (σ 5 k1)) hA (wk_5 hw) (by omega) (by omega) ((ws_val (by decide)).trans ((congrFun (fr_pt_meas_it59 (by decide)) _).trans ((congrFun (fr_pt_meas_it41 (by decide)) _).trans (congrFun (fr_pt_meas_it3 (by decide)) _)))) dX3_measure_86 ?_
                refine pr_bipush hA (16) dX3_measure_87 (by decide) ?_
                refine pr_imul hA dX3_measure_89 ?_
                refine pr_iadd hA dX3_measure_90 ?_
                refine pr_iconst hA (1) dX3_measure_91 (by decide) ?_
                refine pr_iadd hA dX3_measure_92 ?_
                refine pr_istore (ls' := [_, _, _, _, _, _, _, _]) hA dX3_measure_93 (by decide) rfl ?_
                refine pr_iload_n hA dX3_measure_95 rfl ?_
                refine pr_iload hA dX3_measure_96 rfl ?_
                refine pr_ishr hA dX3_measure_98 ?_
                refine pr_iconst hA (1) dX3_measure_99 (by decide) ?_
                refine pr_iand hA dX3_measure_100 ?_
                refine pr_if_eq hA 138 dX3_measure_101 (by decide) (fun c_101 => ?_) (fun c_101 => ?_)
                · refine pr_iinc (ls' := [_, _, _, _, _, _, _, _]) hA (nI (k1 + 1)) dX3_measure_138 (by decide) rfl (nI_inc _) rfl ?_
                  refine pr_goto hA 59 dX3_measure_141 (by decide) ?_
                  have hb := ih59 (nl - (k1 + 1)) (by omega) (k1 + 1) rfl (by omega)
                  simp only [pt_meas_it59, if_pos c_101] at hb
                  exact pr_lessL (ls' := [.ref (w + 116), .ref (w + 1), .int t, .int u, .int ((pt_meas_it59 σ (pt_meas_it41 σ nl t u k).1 nl t u k k1).2), .int (nI k), .int (nI (k1 + 1)), .null]) ⟨.inr rfl, .inr rfl, .inr rfl, .inr rfl, .inr rfl, .inr rfl, .inr rfl, .inl rfl, trivial⟩ hb
                · refine pr_iload hA dX3_measure_104 rfl ?_
                  refine pr_aload_n hA dX3_measure_106 rfl ?_
                  refine pr_getR hA f_X3_19 rfl (wk_116 hw) (wf_116_2 hw) dX3_measure_107 ?_
                  refine pr_aload_n hA dX3_measure_110 rfl ?_
                  refine pr_getR hA f_X3_42 rfl (wk_1 hw) (wf_1_0 hw) dX3_measure_111 ?_
                  refine pr_iload hA dX3_measure_114 rfl ?_
                  refine pr_ialdN (v := (σ 2 k1)) hA (wk_2 hw) (by omega) (by omega) ((ws_val (by decide)).trans ((congrFun (fr_pt_meas_it59 (by decide)) _).trans ((congrFun (fr_pt_meas_it41 (by decide)) _).trans (congrFun (fr_pt_meas_it3 (by decide)) _)))) dX3_measure_116 ?_
                  refine pr_ialdE (v := ((pt_meas_it59 σ (pt_meas_it41 σ nl t u k).1 nl t u k k1).1 118 ((σ 2 k1).toNatClampNeg))) hA (wk_118 hw) (hL k1 (by omega)).1 (ws_val (by decide)) dX3_measure_117 ?_
                  refine pr_icmp_ge hA 138 dX3_measure_118 (by decide) (fun c_118 => ?_) (fun c_118 => ?_)
                  · refine pr_iinc (ls' := [_, _, _, _, _, _, _, _]) hA (nI (k1 + 1)) dX3_measure_138 (by decide) rfl (nI_inc _) rfl ?_
                    refine pr_goto hA 59 dX3_measure_141 (by decide) ?_
                    have hb := ih59 (nl - (k1 + 1)) (by omega) (k1 + 1) rfl (by omega)
                    simp only [pt_meas_it59, if_neg c_101, if_pos c_118] at hb
                    exact pr_lessL (ls' := [.ref (w + 116), .ref (w + 1), .int t, .int u, .int ((pt_meas_it59 σ (pt_meas_it41 σ nl t u k).1 nl t u k k1).2), .int (nI k), .int (nI (k1 + 1)), .null]) ⟨.inr rfl, .inr rfl, .inr rfl, .inr rfl, .inr rfl, .inr rfl, .inr rfl, .inl rfl, trivial⟩ hb
                  · refine pr_aload_n hA dX3_measure_121 rfl ?_
                    refine pr_getR hA f_X3_19 rfl (wk_116 hw) (wf_116_2 hw) dX3_measure_122 ?_
                    refine pr_aload_n hA dX3_measure_125 rfl ?_
                    refine pr_getR hA f_X3_42 rfl (wk_1 hw) (wf_1_0 hw) dX3_measure_126 ?_
                    refine pr_iload hA dX3_measure_129 rfl ?_
                    refine pr_ialdN (v := (σ 2 k1)) hA (wk_2 hw) (by omega) (by omega) ((ws_val (by decide)).trans ((congrFun (fr_pt_meas_it59 (by decide)) _).trans ((congrFun (fr_pt_meas_it41 (by decide)) _).trans (congrFun (fr_pt_meas_it3 (by decide)) _)))) dX3_measure_131 ?_
                    refine pr_iload hA dX3_measure_132 rfl ?_
                    refine pr_iastE (I' := (ws_put I w (pr_up (pt_meas_it59 σ (pt_meas_it41 σ nl t u k).1 nl t u k k1).1 118 ((σ 2 k1).toNatClampNeg) ((((pt_meas_it59 σ (pt_meas_it41 σ nl t u k).1 nl t u k k1).1 118 ((σ 3 k1).toNatClampNeg)) + ((σ 5 k1) * (16 : Int32))) + (1 : Int32))))) hA (wk_118 hw) (hL k1 (by omega)).1 (ws_up (by decide)) dX3_measure_134 ?_
                    refine pr_iconst hA (nI 1) dX3_measure_135 (by decide) ?_
                    refine pr_istore (ls' := [_, _, _, _, _, _, _, _]) hA dX3_measure_136 (by decide) rfl ?_
                    refine pr_iinc (ls' := [_, _, _, _, _, _, _, _]) hA (nI (k1 + 1)) dX3_measure_138 (by decide) rfl (nI_inc _) rfl ?_
                    refine pr_goto hA 59 dX3_measure_141 (by decide) ?_
                    have hb := ih59 (nl - (k1 + 1)) (by omega) (k1 + 1) rfl (by omega)
                    simp only [pt_meas_it59, if_neg c_101, if_neg c_118] at hb
                    exact pr_lessL (ls' := [.ref (w + 116), .ref (w + 1), .int t, .int u, .int (nI 1), .int (nI k), .int (nI (k1 + 1)), .null]) ⟨.inr rfl, .inr rfl, .inr rfl, .inr rfl, .inr rfl, .inr rfl, .inr rfl, .inl rfl, trivial⟩ hb
            exact (lp59 (nl - 0) 0 rfl (by omega))
      exact (lp41 ((sl 12) - 0) 0 rfl (by omega))
    · have n_7 : ¬ 12 ≤ k := fun q => c_7 ((nI_leI (by omega) (by omega)).mpr q)
      refine pr_aload_n hA dX3_measure_10 rfl ?_
      refine pr_getR hA f_X3_19 rfl (wk_116 hw) (wf_116_2 hw) dX3_measure_11 ?_
      refine pr_iload hA dX3_measure_14 rfl ?_
      refine pr_iload hA dX3_measure_16 rfl ?_
      refine pr_iload_n hA dX3_measure_18 rfl ?_
      refine pr_join (c := (nI k) = t) (J := 28) (st := [.int (nI k), .ref (w + 118)]) (0 : Int32) (1000000000 : Int32) inferInstance (fun kt kf => ?_) ?_
      · refine pr_icmp_ne hA 26 dX3_measure_19 (by decide) (fun c_19 => ?_) (fun c_19 => ?_)
        · refine pr_ldc hA kK_X3_26 dX3_measure_26 ?_
          exact kf c_19
        · refine pr_iconst hA (0) dX3_measure_22 (by decide) ?_
          refine pr_goto hA 28 dX3_measure_23 (by decide) ?_
          exact kt c_19
      · refine pr_iastN (I' := (ws_put I w (pr_up (pt_meas_it3 σ nl t u k) 118 k (if (nI k) = t then (0 : Int32) else (1000000000 : Int32))))) hA (wk_118 hw) (by omega) (by omega) (ws_up (by decide)) dX3_measure_28 ?_
        refine pr_iinc (ls' := [_, _, _, _, _, _, _, _]) hA (nI (k + 1)) dX3_measure_29 (by decide) rfl (nI_inc _) rfl ?_
        refine pr_goto hA 3 dX3_measure_32 (by decide) ?_
        have hb := ih3 ((sl 12) - (k + 1)) (by omega) (k + 1) rfl (by omega)
        simp only [pt_meas_it3] at hb
        exact hb
  exact (lp3 ((sl 12) - 0) 0 rfl (by omega))

theorem fr_pt_meas {σ : pr_I} {nl : Nat} {t : Int32} {u : Int32} {o : Nat} (hms : ∀ m ∈ ([118] : List Nat), o ≠ m) : pt_meas σ nl t u o = σ o := by
  unfold pt_meas
  simp only [List.mem_cons, List.not_mem_nil, or_false, forall_eq_or_imp, forall_eq] at hms
  rw [fr_pt_meas_it41 (by simp only [List.mem_cons, List.not_mem_nil, or_false, forall_eq_or_imp, forall_eq]; omega), fr_pt_meas_it3 (by simp only [List.mem_cons, List.not_mem_nil, or_false, forall_eq_or_imp, forall_eq]; omega)]

noncomputable def pt_first_rl3 (σ : pr_I) (nl : Nat) (a : Int32) (u : Int32) : Nat → Nat → Int32
  | 0, _ => 0
  | j + 1, k => (if (nI nl) ≤ (nI k) then ((-1) : Int32) else (if ((u >>> ((nI k) &&& 31)) &&& (1 : Int32)) = 0 then (pt_first_rl3 σ nl a u j (k + 1)) else (if (σ 2 k) = a then (if (((σ 118 ((σ 3 k).toNatClampNeg)) + ((σ 5 k) * (16 : Int32))) + (1 : Int32)) = (σ 118 a.toNatClampNeg) then (nI k) else (pt_first_rl3 σ nl a u j (k + 1))) else (pt_first_rl3 σ nl a u j (k + 1)))))
noncomputable def pt_first_r (σ : pr_I) (nl : Nat) (a : Int32) (u : Int32) : Int32 := (pt_first_rl3 σ nl a u (nl + 1) 0)
set_option maxRecDepth 100000 in
set_option maxHeartbeats 4000000 in
theorem c_pt_first {g : pr_C} {l : Launch} (hl : l.stackTraces = false) {T : pr_T} {I : pr_I} {L : pr_L} {w : Nat} {σ : pr_I} {nl : Nat} {a : Int32} {u : Int32} (hw : pr_W T w) (hnl : σ 1 8 = nI nl) (hnl24 : nl ≤ 24) (hL : ∀ k, k < nl → vp_in (σ 2 k) 12 ∧ vp_in (σ 3 k) 12) (ha : vp_in a 12) : pr_M g l 1 0 0 mX3_firstStep [.ref (w + 116), .ref (w + 1), .int a, .int u] T (ws_put I w σ) L (pr_R (some (.int (pt_first_r σ nl a u))) T (ws_put I w σ) L) pr_no := by
  refine pr_ofG (by decide) rfl hl (Nat.le_of_ble_eq_true rfl) (fun X hA hX hXn hXt => ?_)
  subst hX
  show pr_G g X mX3_firstStep.2.2.1 _ 0 0 0 [.ref (w + 116), .ref (w + 1), .int a, .int u, .null, .null] [] T (ws_put I w σ) L
  refine pr_iconst hA (nI 0) dX3_firstStep_0 (by decide) ?_
  refine pr_istore (ls' := [_, _, _, _, _, _]) hA dX3_firstStep_1 (by decide) rfl ?_
  obtain ⟨R, hR0⟩ : ∃ R, pt_first_rl3 σ nl a u (nl + 1) 0 = R := ⟨_, rfl⟩
  have hf : pt_first_r σ nl a u = R := by simp only [pt_first_r, hR0]
  have lp3 : ∀ (j k : Nat), nl + 1 - k = j → k ≤ nl → pt_first_rl3 σ nl a u j k = R → pr_G g X mX3_firstStep.2.2.1 (pr_MQ g X (pr_R (some (.int (pt_first_r σ nl a u))) T (ws_put I w σ) L) pr_no 0 0) 0 0 3 [.ref (w + 116), .ref (w + 1), .int a, .int u, .int (nI k), .null] [] T (ws_put I w σ) L := by
    intro j
    induction j with
    | zero => intro k  hj hk hR; omega
    | succ j ih =>
      intro k  hj hk hR
      refine pr_iload hA dX3_firstStep_3 rfl ?_
      refine pr_aload_n hA dX3_firstStep_5 rfl ?_
      refine pr_getE (v := (nI nl)) hA f_X3_36 rfl (wk_1 hw) ((ws_val (by decide)).trans hnl) dX3_firstStep_6 ?_
      refine pr_icmp_ge hA 79 dX3_firstStep_9 (by decide) (fun c_9 => ?_) (fun c_9 => ?_)
      · have n_9 : nl ≤ k := (nI_leI (by omega) (by omega)).mp c_9
        refine pr_iconst hA ((-1)) dX3_firstStep_79 (by decide) ?_
        simp only [pt_first_rl3, if_pos c_9] at hR
        exact pr_ireturn hA rfl rfl (Nat.zero_le _) (Nat.zero_le _) dX3_firstStep_80 ⟨(by rw [hf, ← hR]), rfl, rfl, rfl⟩
      · have n_9 : ¬ nl ≤ k := fun q => c_9 ((nI_leI (by omega) (by omega)).mpr q)
        refine pr_iload_n hA dX3_firstStep_12 rfl ?_
        refine pr_iload hA dX3_firstStep_13 rfl ?_
        refine pr_ishr hA dX3_firstStep_15 ?_
        refine pr_iconst hA (1) dX3_firstStep_16 (by decide) ?_
        refine pr_iand hA dX3_firstStep_17 ?_
        refine pr_if_eq hA 73 dX3_firstStep_18 (by decide) (fun c_18 => ?_) (fun c_18 => ?_)
        · refine pr_iinc (ls' := [_, _, _, _, _, _]) hA (nI (k + 1)) dX3_firstStep_73 (by decide) rfl (nI_inc _) rfl ?_
          refine pr_goto hA 3 dX3_firstStep_76 (by decide) ?_
          simp only [pt_first_rl3, if_neg c_9, if_pos c_18] at hR
          exact (ih (k + 1) (by omega) (by omega) hR)
        · refine pr_aload_n hA dX3_firstStep_21 rfl ?_
          refine pr_getR hA f_X3_42 rfl (wk_1 hw) (wf_1_0 hw) dX3_firstStep_22 ?_
          refine pr_iload hA dX3_firstStep_25 rfl ?_
          refine pr_ialdN (v := (σ 2 k)) hA (wk_2 hw) (by omega) (by omega) (ws_val (by decide)) dX3_firstStep_27 ?_
          refine pr_iload_n hA dX3_firstStep_28 rfl ?_
          refine pr_icmp_ne hA 73 dX3_firstStep_29 (by decide) (fun c_29 => ?_) (fun c_29 => ?_)
          · refine pr_iinc (ls' := [_, _, _, _, _, _]) hA (nI (k + 1)) dX3_firstStep_73 (by decide) rfl (nI_inc _) rfl ?_
            refine pr_goto hA 3 dX3_firstStep_76 (by decide) ?_
            simp only [pt_first_rl3, if_neg c_9, if_neg c_18, if_neg c_29] at hR
            exact (ih (k + 1) (by omega) (by omega) hR)
          · refine pr_aload_n hA dX3_firstStep_32 rfl ?_
            refine pr_getR hA f_X3_19 rfl (wk_116 hw) (wf_116_2 hw) dX3_firstStep_33 ?_
            refine pr_aload_n hA dX3_firstStep_36 rfl ?_
            refine pr_getR hA f_X3_31 rfl (wk_1 hw) (wf_1_1 hw) dX3_firstStep_37 ?_
            refine pr_iload hA dX3_firstStep_40 rfl ?_
            refine pr_ialdN (v := (σ 3 k)) hA (wk_3 hw) (by omega) (by omega) (ws_val (by decide)) dX3_firstStep_42 ?_
            refine pr_ialdE (v := (σ 118 ((σ 3 k).toNatClampNeg))) hA (wk_118 hw) (hL k (by omega)).2 (ws_val (by decide)) dX3_firstStep_43 ?_
            refine pr_aload_n hA dX3_firstStep_44 rfl ?_
            refine pr_getR hA f_X3_39 rfl (wk_1 hw) (wf_1_3 hw) dX3_firstStep_45 ?_
            refine pr_iload hA dX3_firstStep_48 rfl ?_
            refine pr_ialdN (v := (σ 5 k)) hA (wk_5 hw) (by omega) (by omega) (ws_val (by decide)) dX3_firstStep_50 ?_
            refine pr_bipush hA (16) dX3_firstStep_51 (by decide) ?_
            refine pr_imul hA dX3_firstStep_53 ?_
            refine pr_iadd hA dX3_firstStep_54 ?_
            refine pr_iconst hA (1) dX3_firstStep_55 (by decide) ?_
            refine pr_iadd hA dX3_firstStep_56 ?_
            refine pr_istore (ls' := [_, _, _, _, _, _]) hA dX3_firstStep_57 (by decide) rfl ?_
            refine pr_iload hA dX3_firstStep_59 rfl ?_
            refine pr_aload_n hA dX3_firstStep_61 rfl ?_
            refine pr_getR hA f_X3_19 rfl (wk_116 hw) (wf_116_2 hw) dX3_firstStep_62 ?_
            refine pr_iload_n hA dX3_firstStep_65 rfl ?_
            refine pr_ialdE (v := (σ 118 a.toNatClampNeg)) hA (wk_118 hw) (by assumption) (ws_val (by decide)) dX3_firstStep_66 ?_
            refine pr_icmp_ne hA 73 dX3_firstStep_67 (by decide) (fun c_67 => ?_) (fun c_67 => ?_)
            · refine pr_iinc (ls' := [_, _, _, _, _, _]) hA (nI (k + 1)) dX3_firstStep_73 (by decide) rfl (nI_inc _) rfl ?_
              refine pr_goto hA 3 dX3_firstStep_76 (by decide) ?_
              simp only [pt_first_rl3, if_neg c_9, if_neg c_18, if_pos c_29, if_neg c_67] at hR
              exact pr_lessL (ls' := [.ref (w + 116), .ref (w + 1), .int a, .int u, .int (nI (k + 1)), .null]) ⟨.inr rfl, .inr rfl, .inr rfl, .inr rfl, .inr rfl, .inl rfl, trivial⟩ (ih (k + 1) (by omega) (by omega) hR)
            · refine pr_iload hA dX3_firstStep_70 rfl ?_
              simp only [pt_first_rl3, if_neg c_9, if_neg c_18, if_pos c_29, if_pos c_67] at hR
              exact pr_ireturn hA rfl rfl (Nat.zero_le _) (Nat.zero_le _) dX3_firstStep_72 ⟨(by rw [hf, ← hR]), rfl, rfl, rfl⟩
  exact (lp3 (nl + 1) 0 rfl (Nat.zero_le _) hR0)

theorem pt_first_rl_in {σ : pr_I} {nl : Nat} {a u : Int32} (h24 : nl ≤ 24) : ∀ (j k : Nat), nl + 1 - k = j → k ≤ nl → pt_first_rl3 σ nl a u j k = -1 ∨ ∃ q, q < nl ∧ pt_first_rl3 σ nl a u j k = nI q
  | 0, k, hj, hk => by omega
  | j + 1, k, hj, hk => by
    have ih := fun h : k + 1 ≤ nl => pt_first_rl_in (σ := σ) (a := a) (u := u) h24 j (k + 1) (by omega) h
    simp only [pt_first_rl3]
    by_cases c : nI nl ≤ nI k
    · rw [if_pos c]; exact Or.inl rfl
    · have hlt : k < nl := by
        rcases Nat.lt_or_ge k nl with q | q
        · exact q
        · exact absurd ((nI_leI (by omega) (by omega)).mpr q) c
      rw [if_neg c]
      (repeat' split) <;> first | exact ih hlt | exact Or.inr ⟨k, hlt, rfl⟩
theorem pt_first_in {σ : pr_I} {nl : Nat} {a u : Int32} (h24 : nl ≤ 24) (h : pt_first_r σ nl a u ≠ -1) : vp_in (pt_first_r σ nl a u) nl := by
  rcases pt_first_rl_in (σ := σ) (a := a) (u := u) h24 (nl + 1) 0 (by omega) (by omega) with q | ⟨q, hq, e⟩
  · exact absurd q h
  · unfold pt_first_r; rw [e]; exact nI_vin hq (by omega)
theorem vp_in_mono {x : Int32} {a b : Nat} (h : vp_in x a) (hab : a ≤ b) : vp_in x b := fun q => h (q.imp id (fun z => Nat.le_trans hab z))
theorem vp_in_lt {x : Int32} {a : Nat} (h : vp_in x a) : x.toNatClampNeg < a := Nat.lt_of_not_le (fun q => h (Or.inr q))
noncomputable def pt_find_rl32 (σ : pr_I) (nl : Nat) (s : Int32) (t : Int32) (u : Int32) : Nat → Nat → pr_I → Int32 → pr_I × Int32
  | 0, _, σ1, _ => (σ1, 0)
  | j + 1, k, σ1, x5 => (if (nI 11) ≤ (nI k) then (σ1, (σ1 116 1)) else (if x5 = t then (σ1, (σ1 116 1)) else (if (pt_first_r σ1 nl x5 u) = ((-1) : Int32) then (σ1, (0 : Int32)) else (pt_find_rl32 σ nl s t u j (k + 1) (pr_up (pr_up σ1 117 k (pt_first_r σ1 nl x5 u)) 116 1 (nI (k + 1))) (σ 3 ((pt_first_r σ1 nl x5 u).toNatClampNeg))))))
theorem fr_pt_find_rl32 {σ : pr_I} {nl : Nat} {s : Int32} {t : Int32} {u : Int32} {o : Nat} (hms : ∀ m ∈ ([116, 117] : List Nat), o ≠ m) : ∀ {j k : Nat} {σ1 : pr_I} {x5 : Int32}, (pt_find_rl32 σ nl s t u j k σ1 x5).1 o = σ1 o := by
  simp only [List.mem_cons, List.not_mem_nil, or_false, forall_eq_or_imp, forall_eq] at hms
  intro j
  induction j with
  | zero => intro _ _ _; rfl
  | succ j ih =>
    intro k σ1 x5
    show ((if (nI 11) ≤ (nI k) then (σ1, (σ1 116 1)) else (if x5 = t then (σ1, (σ1 116 1)) else (if (pt_first_r σ1 nl x5 u) = ((-1) : Int32) then (σ1, (0 : Int32)) else (pt_find_rl32 σ nl s t u j (k + 1) (pr_up (pr_up σ1 117 k (pt_first_r σ1 nl x5 u)) 116 1 (nI (k + 1))) (σ 3 ((pt_first_r σ1 nl x5 u).toNatClampNeg))))))).1 o = σ1 o
    by_cases c_36 : (nI 11) ≤ (nI k)
    · refine (congrFun (congrArg (fun z : pr_I × Int32 => z.1) (if_pos c_36)) o).trans ?_
      show σ1 o = σ1 o
      rfl
    · refine (congrFun (congrArg (fun z : pr_I × Int32 => z.1) (if_neg c_36)) o).trans ?_
      by_cases c_42 : x5 = t
      · refine (congrFun (congrArg (fun z : pr_I × Int32 => z.1) (if_pos c_42)) o).trans ?_
        show σ1 o = σ1 o
        rfl
      · refine (congrFun (congrArg (fun z : pr_I × Int32 => z.1) (if_neg c_42)) o).trans ?_
        by_cases c_59 : (pt_first_r σ1 nl x5 u) = ((-1) : Int32)
        · refine (congrFun (congrArg (fun z : pr_I × Int32 => z.1) (if_pos c_59)) o).trans ?_
          show σ1 o = σ1 o
          rfl
        · refine (congrFun (congrArg (fun z : pr_I × Int32 => z.1) (if_neg c_59)) o).trans ?_
          rw [ih, pr_up_ne (by omega), pr_up_ne (by omega)]

noncomputable def pt_find_r (σ : pr_I) (nl : Nat) (s : Int32) (t : Int32) (u : Int32) : Int32 := (if ((pt_meas (pr_up σ 116 1 (0 : Int32)) nl t u) 118 s.toNatClampNeg) = (1000000000 : Int32) then (0 : Int32) else ((pt_find_rl32 σ nl s t u ((sl 11) + 1) 0 (pt_meas (pr_up σ 116 1 (0 : Int32)) nl t u) s).2))
noncomputable def pt_find (σ : pr_I) (nl : Nat) (s : Int32) (t : Int32) (u : Int32) : pr_I := (if ((pt_meas (pr_up σ 116 1 (0 : Int32)) nl t u) 118 s.toNatClampNeg) = (1000000000 : Int32) then (pt_meas (pr_up σ 116 1 (0 : Int32)) nl t u) else (pt_find_rl32 σ nl s t u ((sl 11) + 1) 0 (pt_meas (pr_up σ 116 1 (0 : Int32)) nl t u) s).1)
set_option maxRecDepth 100000 in
set_option maxHeartbeats 4000000 in
theorem c_pt_find {g : pr_C} {l : Launch} (hl : l.stackTraces = false) {T : pr_T} {I : pr_I} {L : pr_L} {w : Nat} {σ : pr_I} {nl : Nat} {s : Int32} {t : Int32} {u : Int32} (hw : pr_W T w) (hnl : σ 1 8 = nI nl) (hnl24 : nl ≤ 24) (hL : ∀ k, k < nl → vp_in (σ 2 k) 12 ∧ vp_in (σ 3 k) 12) (hs : vp_in s 12) : pr_M g l 3 0 0 mX3_find [.ref (w + 116), .ref (w + 1), .int s, .int t, .int u] T (ws_put I w σ) L (pr_R (some (.int (pt_find_r σ nl s t u))) T (ws_put I w (pt_find σ nl s t u)) L) pr_no := by
  refine pr_ofG (by decide) rfl hl (Nat.le_of_ble_eq_true rfl) (fun X hA hX hXn hXt => ?_)
  subst hX
  show pr_G g X mX3_find.2.2.1 _ 0 0 0 [.ref (w + 116), .ref (w + 1), .int s, .int t, .int u, .null, .null, .null] [] T (ws_put I w σ) L
  have hsl11 := sl_eq 11
  refine pr_aload_n hA dX3_find_0 rfl ?_
  refine pr_iconst hA (0) dX3_find_1 (by decide) ?_
  refine pr_putE (I' := (ws_put I w (pr_up σ 116 1 (0 : Int32)))) hA f_X3_15 rfl (wk_116 hw) (ws_up (by decide)) dX3_find_2 ?_
  refine pr_aload_n hA dX3_find_5 rfl ?_
  refine pr_aload_n hA dX3_find_6 rfl ?_
  refine pr_iload_n hA dX3_find_7 rfl ?_
  refine pr_iload hA dX3_find_8 rfl ?_
  refine pr_callVv hA [.ref (w + 1), .int t, .int u] (c_pt_meas (pr_hl hA) hw ((pr_upv (by decide)).trans hnl) (by omega) (fun k hk => ⟨vin_eq (pr_upv (by decide)) (hL k hk).1, vin_eq (pr_upv (by decide)) (hL k hk).2⟩)) v_X3_22 (wk_116 hw) (by decide) rfl rfl rfl (by decide) (Nat.zero_le _) (Nat.zero_le _) rfl (Nat.le_of_ble_eq_true rfl) dX3_find_10 ?_
  refine pr_aload_n hA dX3_find_13 rfl ?_
  refine pr_getR hA f_X3_19 rfl (wk_116 hw) (wf_116_2 hw) dX3_find_14 ?_
  refine pr_iload_n hA dX3_find_17 rfl ?_
  refine pr_ialdE (v := ((pt_meas (pr_up σ 116 1 (0 : Int32)) nl t u) 118 s.toNatClampNeg)) hA (wk_118 hw) (by assumption) (ws_val (by decide)) dX3_find_18 ?_
  refine pr_ldc hA kK_X3_26 dX3_find_19 ?_
  refine pr_icmp_ne hA 26 dX3_find_21 (by decide) (fun c_21 => ?_) (fun c_21 => ?_)
  · refine pr_iload_n hA dX3_find_26 rfl ?_
    refine pr_istore (ls' := [_, _, _, _, _, _, _, _]) hA dX3_find_27 (by decide) rfl ?_
    refine pr_iconst hA (nI 0) dX3_find_29 (by decide) ?_
    refine pr_istore (ls' := [_, _, _, _, _, _, _, _]) hA dX3_find_30 (by decide) rfl ?_
    obtain ⟨R, hR0⟩ : ∃ R, pt_find_rl32 σ nl s t u ((sl 11) + 1) 0 (pt_meas (pr_up σ 116 1 (0 : Int32)) nl t u) s = R := ⟨_, rfl⟩
    have hf : pt_find_r σ nl s t u = R.2 := by simp only [pt_find_r, if_neg c_21, hR0]
    have hm : pt_find σ nl s t u = R.1 := by simp only [pt_find, if_neg c_21, hR0]
    have lp32 : ∀ (j k : Nat) (σ1 : pr_I) (x5 : Int32), (∀ {o : Nat}, (∀ m ∈ ([116, 117] : List Nat), o ≠ m) → σ1 o = (pt_meas (pr_up σ 116 1 (0 : Int32)) nl t u) o) → (vp_in x5 12) → (sl 11) + 1 - k = j → k ≤ (sl 11) → pt_find_rl32 σ nl s t u j k σ1 x5 = R → pr_G g X mX3_find.2.2.1 (pr_MQ g X (pr_R (some (.int (pt_find_r σ nl s t u))) T (ws_put I w (pt_find σ nl s t u)) L) pr_no 0 0) 0 0 32 [.ref (w + 116), .ref (w + 1), .int s, .int t, .int u, .int x5, .int (nI k), .null] [] T (ws_put I w σ1) L := by
      intro j
      induction j with
      | zero => intro k σ1 x5 hσ1 hx5 hj hk hR; omega
      | succ j ih =>
        intro k σ1 x5 hσ1 hx5 hj hk hR
        refine pr_iload hA dX3_find_32 rfl ?_
        refine pr_bipush hA (nI 11) dX3_find_34 (by decide) ?_
        refine pr_icmp_ge hA 96 dX3_find_36 (by decide) (fun c_36 => ?_) (fun c_36 => ?_)
        · have n_36 : 11 ≤ k := (nI_leI (by omega) (by omega)).mp c_36
          refine pr_aload_n hA dX3_find_96 rfl ?_
          refine pr_getE (v := (σ1 116 1)) hA f_X3_15 rfl (wk_116 hw) (ws_val (by decide)) dX3_find_97 ?_
          simp only [pt_find_rl32, if_pos c_36] at hR
          exact pr_ireturn hA rfl rfl (Nat.zero_le _) (Nat.zero_le _) dX3_find_100 ⟨(by rw [hf, ← hR]), rfl, (by rw [hm, ← hR]), rfl⟩
        · have n_36 : ¬ 11 ≤ k := fun q => c_36 ((nI_leI (by omega) (by omega)).mpr q)
          refine pr_iload hA dX3_find_39 rfl ?_
          refine pr_iload_n hA dX3_find_41 rfl ?_
          refine pr_icmp_eq hA 96 dX3_find_42 (by decide) (fun c_42 => ?_) (fun c_42 => ?_)
          · refine pr_aload_n hA dX3_find_96 rfl ?_
            refine pr_getE (v := (σ1 116 1)) hA f_X3_15 rfl (wk_116 hw) (ws_val (by decide)) dX3_find_97 ?_
            simp only [pt_find_rl32, if_neg c_36, if_pos c_42] at hR
            exact pr_ireturn hA rfl rfl (Nat.zero_le _) (Nat.zero_le _) dX3_find_100 ⟨(by rw [hf, ← hR]), rfl, (by rw [hm, ← hR]), rfl⟩
          · refine pr_aload_n hA dX3_find_45 rfl ?_
            refine pr_aload_n hA dX3_find_46 rfl ?_
            refine pr_iload hA dX3_find_47 rfl ?_
            refine pr_iload hA dX3_find_49 rfl ?_
            refine pr_callVi hA [.ref (w + 1), .int x5, .int u] (c_pt_first (pr_hl hA) hw ((congrFun (hσ1 (by decide)) _).trans ((congrFun (fr_pt_meas (by decide)) _).trans ((pr_upv (by decide)).trans hnl))) (by omega) (fun k hk => ⟨vin_eq ((congrFun (hσ1 (by decide)) _).trans ((congrFun (fr_pt_meas (by decide)) _).trans (pr_upv (by decide)))) (hL k hk).1, vin_eq ((congrFun (hσ1 (by decide)) _).trans ((congrFun (fr_pt_meas (by decide)) _).trans (pr_upv (by decide)))) (hL k hk).2⟩) hx5) v_X3_27 (wk_116 hw) (by decide) rfl rfl rfl (by decide) (Nat.zero_le _) (Nat.zero_le _) rfl (Nat.le_of_ble_eq_true rfl) dX3_find_51 ?_
            refine pr_istore (ls' := [_, _, _, _, _, _, _, _]) hA dX3_find_54 (by decide) rfl ?_
            refine pr_iload hA dX3_find_56 rfl ?_
            refine pr_iconst hA ((-1)) dX3_find_58 (by decide) ?_
            refine pr_icmp_ne hA 64 dX3_find_59 (by decide) (fun c_59 => ?_) (fun c_59 => ?_)
            · refine pr_aload_n hA dX3_find_64 rfl ?_
              refine pr_getR hA f_X3_9 rfl (wk_116 hw) (wf_116_0 hw) dX3_find_65 ?_
              refine pr_iload hA dX3_find_68 rfl ?_
              refine pr_iload hA dX3_find_70 rfl ?_
              refine pr_iastN (I' := (ws_put I w (pr_up σ1 117 k (pt_first_r σ1 nl x5 u)))) hA (wk_117 hw) (by omega) (by omega) (ws_up (by decide)) dX3_find_72 ?_
              refine pr_aload_n hA dX3_find_73 rfl ?_
              refine pr_iload hA dX3_find_74 rfl ?_
              refine pr_iconst hA (1) dX3_find_76 (by decide) ?_
              refine pr_iaddE (v := nI (k + 1)) hA (nI_1 _) dX3_find_77 ?_
              refine pr_putE (I' := (ws_put I w (pr_up (pr_up σ1 117 k (pt_first_r σ1 nl x5 u)) 116 1 (nI (k + 1))))) hA f_X3_15 rfl (wk_116 hw) (ws_up (by decide)) dX3_find_78 ?_
              refine pr_aload_n hA dX3_find_81 rfl ?_
              refine pr_getR hA f_X3_31 rfl (wk_1 hw) (wf_1_1 hw) dX3_find_82 ?_
              refine pr_iload hA dX3_find_85 rfl ?_
              refine pr_ialdE (v := (σ 3 ((pt_first_r σ1 nl x5 u).toNatClampNeg))) hA (wk_3 hw) (vp_in_mono (pt_first_in hnl24 c_59) hnl24) ((ws_val (by decide)).trans ((pr_upv (by decide)).trans ((pr_upv (by decide)).trans ((congrFun (hσ1 (by decide)) _).trans ((congrFun (fr_pt_meas (by decide)) _).trans (pr_upv (by decide))))))) dX3_find_87 ?_
              refine pr_istore (ls' := [_, _, _, _, _, _, _, _]) hA dX3_find_88 (by decide) rfl ?_
              refine pr_iinc (ls' := [_, _, _, _, _, _, _, _]) hA (nI (k + 1)) dX3_find_90 (by decide) rfl (nI_inc _) rfl ?_
              refine pr_goto hA 32 dX3_find_93 (by decide) ?_
              simp only [pt_find_rl32, if_neg c_36, if_neg c_42, if_neg c_59] at hR
              exact pr_lessL (ls' := [.ref (w + 116), .ref (w + 1), .int s, .int t, .int u, .int (σ 3 ((pt_first_r σ1 nl x5 u).toNatClampNeg)), .int (nI (k + 1)), .null]) ⟨.inr rfl, .inr rfl, .inr rfl, .inr rfl, .inr rfl, .inr rfl, .inr rfl, .inl rfl, trivial⟩ (ih (k + 1) (pr_up (pr_up σ1 117 k (pt_first_r σ1 nl x5 u)) 116 1 (nI (k + 1))) (σ 3 ((pt_first_r σ1 nl x5 u).toNatClampNeg)) (by intro o hms; simp only [List.mem_cons, List.not_mem_nil, or_false, forall_eq_or_imp, forall_eq] at hms; rw [pr_up_ne (by omega), pr_up_ne (by omega)]; exact hσ1 (by simp only [List.mem_cons, List.not_mem_nil, or_false, forall_eq_or_imp, forall_eq]; omega)) (hL _ (Nat.lt_of_lt_of_le (vp_in_lt (pt_first_in hnl24 c_59)) (Nat.le_refl _))).2 (by omega) (by omega) hR)
            · refine pr_iconst hA (0) dX3_find_62 (by decide) ?_
              simp only [pt_find_rl32, if_neg c_36, if_neg c_42, if_pos c_59] at hR
              exact pr_ireturn hA rfl rfl (Nat.zero_le _) (Nat.zero_le _) dX3_find_63 ⟨(by rw [hf, ← hR]), rfl, (by rw [hm, ← hR]), rfl⟩
    exact (lp32 ((sl 11) + 1) 0 (pt_meas (pr_up σ 116 1 (0 : Int32)) nl t u) s (fun _ => rfl) hs rfl (Nat.zero_le _) hR0)
  · refine pr_iconst hA (0) dX3_find_24 (by decide) ?_
    exact pr_ireturn hA rfl rfl (Nat.zero_le _) (Nat.zero_le _) dX3_find_25 ⟨(by simp only [pt_find_r, if_pos c_21]), rfl, (by simp only [pt_find, if_pos c_21]), rfl⟩

theorem fr_pt_find {σ : pr_I} {nl : Nat} {s : Int32} {t : Int32} {u : Int32} {o : Nat} (hms : ∀ m ∈ ([116, 117, 118] : List Nat), o ≠ m) : pt_find σ nl s t u o = σ o := by
  unfold pt_find
  simp only [List.mem_cons, List.not_mem_nil, or_false, forall_eq_or_imp, forall_eq] at hms
  by_cases c_21 : ((pt_meas (pr_up σ 116 1 (0 : Int32)) nl t u) 118 s.toNatClampNeg) = (1000000000 : Int32)
  · refine (congrFun (if_pos c_21) o).trans ?_
    rw [fr_pt_meas (by simp only [List.mem_cons, List.not_mem_nil, or_false, forall_eq_or_imp, forall_eq]; omega), pr_up_ne (by omega)]
  · refine (congrFun (if_neg c_21) o).trans ?_
    rw [fr_pt_find_rl32 (by simp only [List.mem_cons, List.not_mem_nil, or_false, forall_eq_or_imp, forall_eq]; omega), fr_pt_meas (by simp only [List.mem_cons, List.not_mem_nil, or_false, forall_eq_or_imp, forall_eq]; omega), pr_up_ne (by omega)]


noncomputable def pt_reach_it32 (σ σ1 : pr_I) (nl : Nat) (s : Int32) (u : Int32) (k : Nat) (x4 : Int32) (x5 : Int32) : Nat → Int32
  | 0 => x4
  | k1 + 1 => ((pt_reach_it32 σ σ1 nl s u k x4 x5 k1) ||| (if (if ((u >>> ((nI k1) &&& 31)) &&& (1 : Int32)) = 0 then (0 : Int32) else (if (((pt_reach_it32 σ σ1 nl s u k x4 x5 k1) >>> ((σ 2 k1) &&& 31)) &&& (1 : Int32)) = 0 then (0 : Int32) else (1 : Int32))) = 0 then (0 : Int32) else ((1 : Int32) <<< ((σ 3 k1) &&& 31))))
noncomputable def pt_reach_it11 (σ : pr_I) (nl : Nat) (s : Int32) (u : Int32) : Nat → Int32 × Int32
  | 0 => (((1 : Int32) <<< (s &&& 31)), (0 : Int32))
  | k + 1 => (if ((pt_reach_it11 σ nl s u k).1) = ((pt_reach_it11 σ nl s u k).2) then (((pt_reach_it11 σ nl s u k).1), ((pt_reach_it11 σ nl s u k).2)) else ((pt_reach_it32 σ σ nl s u k ((pt_reach_it11 σ nl s u k).1) ((pt_reach_it11 σ nl s u k).1) nl), ((pt_reach_it11 σ nl s u k).1)))
theorem st_pt_reach_it11_22 {σ : pr_I} {nl : Nat} {s : Int32} {u : Int32} {k : Nat} (c_22 : ((pt_reach_it11 σ nl s u k).1) = ((pt_reach_it11 σ nl s u k).2)) : ∀ j, pt_reach_it11 σ nl s u (k + j) = pt_reach_it11 σ nl s u k
  | 0 => rfl
  | j + 1 => by
    have ih := st_pt_reach_it11_22 c_22 j
    show pt_reach_it11 σ nl s u ((k + j) + 1) = pt_reach_it11 σ nl s u k
    simp only [pt_reach_it11, ih, if_pos c_22]
noncomputable def pt_reach_r (σ : pr_I) (nl : Nat) (s : Int32) (u : Int32) : Int32 := ((pt_reach_it11 σ nl s u (sl 12)).1)
set_option maxRecDepth 100000 in
set_option maxHeartbeats 4000000 in
theorem c_pt_reach {g : pr_C} {l : Launch} (hl : l.stackTraces = false) {T : pr_T} {I : pr_I} {L : pr_L} {w : Nat} {σ : pr_I} {nl : Nat} {s : Int32} {u : Int32} (hw : pr_W T w) (hnl : σ 1 8 = nI nl) (hnl24 : nl ≤ 24) (hL : ∀ k, k < nl → vp_in (σ 2 k) 12 ∧ vp_in (σ 3 k) 12) : pr_M g l 1 0 0 mX3_reachedFrom [.ref (w + 116), .ref (w + 1), .int s, .int u] T (ws_put I w σ) L (pr_R (some (.int (pt_reach_r σ nl s u))) T (ws_put I w σ) L) pr_no := by
  refine pr_ofG (by decide) rfl hl (Nat.le_of_ble_eq_true rfl) (fun X hA hX hXn hXt => ?_)
  subst hX
  show pr_G g X mX3_reachedFrom.2.2.1 _ 0 0 0 [.ref (w + 116), .ref (w + 1), .int s, .int u, .null, .null, .null, .null, .null] [] T (ws_put I w σ) L
  have hsl12 := sl_eq 12
  refine pr_iconst hA (1) dX3_reachedFrom_0 (by decide) ?_
  refine pr_iload_n hA dX3_reachedFrom_1 rfl ?_
  refine pr_ishl hA dX3_reachedFrom_2 ?_
  refine pr_istore (ls' := [_, _, _, _, _, _, _, _, _]) hA dX3_reachedFrom_3 (by decide) rfl ?_
  refine pr_iconst hA (0) dX3_reachedFrom_5 (by decide) ?_
  refine pr_istore (ls' := [_, _, _, _, _, _, _, _, _]) hA dX3_reachedFrom_6 (by decide) rfl ?_
  refine pr_iconst hA (nI 0) dX3_reachedFrom_8 (by decide) ?_
  refine pr_istore (ls' := [_, _, _, _, _, _, _, _, _]) hA dX3_reachedFrom_9 (by decide) rfl ?_
  have lp11 : ∀ (j k : Nat), (sl 12) - k = j → k ≤ (sl 12) → pr_G g X mX3_reachedFrom.2.2.1 (pr_MQ g X (pr_R (some (.int (pt_reach_r σ nl s u))) T (ws_put I w σ) L) pr_no 0 0) 0 0 11 [.ref (w + 116), .ref (w + 1), .int s, .int u, .int ((pt_reach_it11 σ nl s u k).1), .int ((pt_reach_it11 σ nl s u k).2), .int (nI k), .null, .null] [] T (ws_put I w σ) L := by
    intro j
    induction j using Nat.strongRecOn with | ind j ih11 =>
    intro k hj11 hk11
    refine pr_iload hA dX3_reachedFrom_11 rfl ?_
    refine pr_bipush hA (nI 12) dX3_reachedFrom_13 (by decide) ?_
    refine pr_icmp_ge hA 107 dX3_reachedFrom_15 (by decide) (fun c_15 => ?_) (fun c_15 => ?_)
    · have n_15 : 12 ≤ k := (nI_leI (by omega) (by omega)).mp c_15
      have hex : (sl 12) = k := by omega
      subst hex
      refine pr_iload hA dX3_reachedFrom_107 rfl ?_
      exact pr_ireturn hA rfl rfl (Nat.zero_le _) (Nat.zero_le _) dX3_reachedFrom_109 ⟨rfl, rfl, rfl, rfl⟩
    · have n_15 : ¬ 12 ≤ k := fun q => c_15 ((nI_leI (by omega) (by omega)).mpr q)
      refine pr_iload hA dX3_reachedFrom_18 rfl ?_
      refine pr_iload hA dX3_reachedFrom_20 rfl ?_
      refine pr_icmp_eq hA 107 dX3_reachedFrom_22 (by decide) (fun c_22 => ?_) (fun c_22 => ?_)
      · have hst := st_pt_reach_it11_22 c_22 ((sl 12) - k)
        rw [show k + ((sl 12) - k) = (sl 12) from by omega] at hst
        refine pr_lessL (ls' := [.ref (w + 116), .ref (w + 1), .int s, .int u, .int ((pt_reach_it11 σ nl s u k).1), .int ((pt_reach_it11 σ nl s u k).2), .null, .null, .null]) ⟨.inr rfl, .inr rfl, .inr rfl, .inr rfl, .inr rfl, .inr rfl, .inl rfl, .inl rfl, .inl rfl, trivial⟩ ?_
        rw [← hst]
        refine pr_iload hA dX3_reachedFrom_107 rfl ?_
        exact pr_ireturn hA rfl rfl (Nat.zero_le _) (Nat.zero_le _) dX3_reachedFrom_109 ⟨rfl, rfl, rfl, rfl⟩
      · refine pr_iload hA dX3_reachedFrom_25 rfl ?_
        refine pr_istore (ls' := [_, _, _, _, _, _, _, _, _]) hA dX3_reachedFrom_27 (by decide) rfl ?_
        refine pr_iconst hA (nI 0) dX3_reachedFrom_29 (by decide) ?_
        refine pr_istore (ls' := [_, _, _, _, _, _, _, _, _]) hA dX3_reachedFrom_30 (by decide) rfl ?_
        have lp32 : ∀ (j k1 : Nat), nl - k1 = j → k1 ≤ nl → pr_G g X mX3_reachedFrom.2.2.1 (pr_MQ g X (pr_R (some (.int (pt_reach_r σ nl s u))) T (ws_put I w σ) L) pr_no 0 0) 0 0 32 [.ref (w + 116), .ref (w + 1), .int s, .int u, .int (pt_reach_it32 σ σ nl s u k ((pt_reach_it11 σ nl s u k).1) ((pt_reach_it11 σ nl s u k).1) k1), .int ((pt_reach_it11 σ nl s u k).1), .int (nI k), .int (nI k1), .null] [] T (ws_put I w σ) L := by
          intro j
          induction j using Nat.strongRecOn with | ind j ih32 =>
          intro k1 hj32 hk32
          refine pr_iload hA dX3_reachedFrom_32 rfl ?_
          refine pr_aload_n hA dX3_reachedFrom_34 rfl ?_
          refine pr_getE (v := (nI nl)) hA f_X3_36 rfl (wk_1 hw) ((ws_val (by decide)).trans hnl) dX3_reachedFrom_35 ?_
          refine pr_icmp_ge hA 101 dX3_reachedFrom_38 (by decide) (fun c_38 => ?_) (fun c_38 => ?_)
          · have n_38 : nl ≤ k1 := (nI_leI (by omega) (by omega)).mp c_38
            have hex : nl = k1 := by omega
            subst hex
            refine pr_iinc (ls' := [_, _, _, _, _, _, _, _, _]) hA (nI (k + 1)) dX3_reachedFrom_101 (by decide) rfl (nI_inc _) rfl ?_
            refine pr_goto hA 11 dX3_reachedFrom_104 (by decide) ?_
            have hb := ih11 ((sl 12) - (k + 1)) (by omega) (k + 1) rfl (by omega)
            simp only [pt_reach_it11, if_neg c_22] at hb
            exact pr_lessL (ls' := [.ref (w + 116), .ref (w + 1), .int s, .int u, .int (pt_reach_it32 σ σ nl s u k ((pt_reach_it11 σ nl s u k).1) ((pt_reach_it11 σ nl s u k).1) nl), .int ((pt_reach_it11 σ nl s u k).1), .int (nI (k + 1)), .null, .null]) ⟨.inr rfl, .inr rfl, .inr rfl, .inr rfl, .inr rfl, .inr rfl, .inr rfl, .inl rfl, .inl rfl, trivial⟩ hb
          · have n_38 : ¬ nl ≤ k1 := fun q => c_38 ((nI_leI (by omega) (by omega)).mpr q)
            refine pr_iload_n hA dX3_reachedFrom_41 rfl ?_
            refine pr_iload hA dX3_reachedFrom_42 rfl ?_
            refine pr_ishr hA dX3_reachedFrom_44 ?_
            refine pr_iconst hA (1) dX3_reachedFrom_45 (by decide) ?_
            refine pr_iand hA dX3_reachedFrom_46 ?_
            refine pr_join (c := ((u >>> ((nI k1) &&& 31)) &&& (1 : Int32)) = 0) (J := 70) (st := []) (0 : Int32) (if (((pt_reach_it32 σ σ nl s u k ((pt_reach_it11 σ nl s u k).1) ((pt_reach_it11 σ nl s u k).1) k1) >>> ((σ 2 k1) &&& 31)) &&& (1 : Int32)) = 0 then (0 : Int32) else (1 : Int32)) inferInstance (fun kt kf => ?_) ?_
            · refine pr_if_eq hA 69 dX3_reachedFrom_47 (by decide) (fun c_47 => ?_) (fun c_47 => ?_)
              · refine pr_iconst hA (0) dX3_reachedFrom_69 (by decide) ?_
                exact kt c_47
              · refine pr_iload hA dX3_reachedFrom_50 rfl ?_
                refine pr_aload_n hA dX3_reachedFrom_52 rfl ?_
                refine pr_getR hA f_X3_42 rfl (wk_1 hw) (wf_1_0 hw) dX3_reachedFrom_53 ?_
                refine pr_iload hA dX3_reachedFrom_56 rfl ?_
                refine pr_ialdN (v := (σ 2 k1)) hA (wk_2 hw) (by omega) (by omega) (ws_val (by decide)) dX3_reachedFrom_58 ?_
                refine pr_ishr hA dX3_reachedFrom_59 ?_
                refine pr_iconst hA (1) dX3_reachedFrom_60 (by decide) ?_
                refine pr_iand hA dX3_reachedFrom_61 ?_
                refine pr_join (c := (((pt_reach_it32 σ σ nl s u k ((pt_reach_it11 σ nl s u k).1) ((pt_reach_it11 σ nl s u k).1) k1) >>> ((σ 2 k1) &&& 31)) &&& (1 : Int32)) = 0) (J := 70) (st := []) (0 : Int32) (1 : Int32) inferInstance (fun kt kf => ?_) ?_
                · refine pr_if_eq hA 69 dX3_reachedFrom_62 (by decide) (fun c_62 => ?_) (fun c_62 => ?_)
                  · refine pr_iconst hA (0) dX3_reachedFrom_69 (by decide) ?_
                    exact kt c_62
                  · refine pr_iconst hA (1) dX3_reachedFrom_65 (by decide) ?_
                    refine pr_goto hA 70 dX3_reachedFrom_66 (by decide) ?_
                    exact kf c_62
                · exact kf c_47
            · refine pr_istore (ls' := [_, _, _, _, _, _, _, _, _]) hA dX3_reachedFrom_70 (by decide) rfl ?_
              refine pr_iload hA dX3_reachedFrom_72 rfl ?_
              refine pr_iload hA dX3_reachedFrom_74 rfl ?_
              refine pr_join (c := (if ((u >>> ((nI k1) &&& 31)) &&& (1 : Int32)) = 0 then (0 : Int32) else (if (((pt_reach_it32 σ σ nl s u k ((pt_reach_it11 σ nl s u k).1) ((pt_reach_it11 σ nl s u k).1) k1) >>> ((σ 2 k1) &&& 31)) &&& (1 : Int32)) = 0 then (0 : Int32) else (1 : Int32))) = 0) (J := 92) (st := [.int (pt_reach_it32 σ σ nl s u k ((pt_reach_it11 σ nl s u k).1) ((pt_reach_it11 σ nl s u k).1) k1)]) (0 : Int32) ((1 : Int32) <<< ((σ 3 k1) &&& 31)) inferInstance (fun kt kf => ?_) ?_
              · refine pr_if_eq hA 91 dX3_reachedFrom_76 (by decide) (fun c_76 => ?_) (fun c_76 => ?_)
                · refine pr_iconst hA (0) dX3_reachedFrom_91 (by decide) ?_
                  exact kt c_76
                · refine pr_iconst hA (1) dX3_reachedFrom_79 (by decide) ?_
                  refine pr_aload_n hA dX3_reachedFrom_80 rfl ?_
                  refine pr_getR hA f_X3_31 rfl (wk_1 hw) (wf_1_1 hw) dX3_reachedFrom_81 ?_
                  refine pr_iload hA dX3_reachedFrom_84 rfl ?_
                  refine pr_ialdN (v := (σ 3 k1)) hA (wk_3 hw) (by omega) (by omega) (ws_val (by decide)) dX3_reachedFrom_86 ?_
                  refine pr_ishl hA dX3_reachedFrom_87 ?_
                  refine pr_goto hA 92 dX3_reachedFrom_88 (by decide) ?_
                  exact kf c_76
              · refine pr_ior hA dX3_reachedFrom_92 ?_
                refine pr_istore (ls' := [_, _, _, _, _, _, _, _, _]) hA dX3_reachedFrom_93 (by decide) rfl ?_
                refine pr_iinc (ls' := [_, _, _, _, _, _, _, _, _]) hA (nI (k1 + 1)) dX3_reachedFrom_95 (by decide) rfl (nI_inc _) rfl ?_
                refine pr_goto hA 32 dX3_reachedFrom_98 (by decide) ?_
                have hb := ih32 (nl - (k1 + 1)) (by omega) (k1 + 1) rfl (by omega)
                simp only [pt_reach_it32] at hb
                exact pr_lessL (ls' := [.ref (w + 116), .ref (w + 1), .int s, .int u, .int ((pt_reach_it32 σ σ nl s u k ((pt_reach_it11 σ nl s u k).1) ((pt_reach_it11 σ nl s u k).1) k1) ||| (if (if ((u >>> ((nI k1) &&& 31)) &&& (1 : Int32)) = 0 then (0 : Int32) else (if (((pt_reach_it32 σ σ nl s u k ((pt_reach_it11 σ nl s u k).1) ((pt_reach_it11 σ nl s u k).1) k1) >>> ((σ 2 k1) &&& 31)) &&& (1 : Int32)) = 0 then (0 : Int32) else (1 : Int32))) = 0 then (0 : Int32) else ((1 : Int32) <<< ((σ 3 k1) &&& 31)))), .int ((pt_reach_it11 σ nl s u k).1), .int (nI k), .int (nI (k1 + 1)), .null]) ⟨.inr rfl, .inr rfl, .inr rfl, .inr rfl, .inr rfl, .inr rfl, .inr rfl, .inr rfl, .inl rfl, trivial⟩ hb
        exact (lp32 (nl - 0) 0 rfl (by omega))
  exact (lp11 ((sl 12) - 0) 0 rfl (by omega))

noncomputable def pt_width_it6 (σ : pr_I) (nl : Nat) (s : Int32) (t : Int32) : Nat → Int32
  | 0 => (0 : Int32)
  | k + 1 => (if (if lk_up σ k = 0 then (0 : Int32) else 1) = 0 then (pt_width_it6 σ nl s t k) else (if (lk_av σ k) ≤ (pt_width_it6 σ nl s t k) then (pt_width_it6 σ nl s t k) else (if (((pt_reach_r σ nl s (lk_wu σ (lk_av σ k) nl &&& σ 1 7)) >>> (t &&& 31)) &&& (1 : Int32)) = 0 then (pt_width_it6 σ nl s t k) else (lk_av σ k))))
noncomputable def pt_width_r (σ : pr_I) (nl : Nat) (s : Int32) (t : Int32) : Int32 := (pt_width_it6 σ nl s t nl)
set_option maxRecDepth 100000 in
set_option maxHeartbeats 4000000 in
theorem c_pt_width {g : pr_C} {l : Launch} (hl : l.stackTraces = false) {T : pr_T} {I : pr_I} {L : pr_L} {w : Nat} {σ : pr_I} {nl : Nat} {s : Int32} {t : Int32} (hw : pr_W T w) (hnl : σ 1 8 = nI nl) (hnl24 : nl ≤ 24) (hL : ∀ k, k < nl → vp_in (σ 2 k) 12 ∧ vp_in (σ 3 k) 12) : pr_M g l 3 0 0 mX3_width [.ref (w + 116), .ref (w + 1), .int s, .int t] T (ws_put I w σ) L (pr_R (some (.int (pt_width_r σ nl s t))) T (ws_put I w σ) L) pr_no := by
  refine pr_ofG (by decide) rfl hl (Nat.le_of_ble_eq_true rfl) (fun X hA hX hXn hXt => ?_)
  subst hX
  show pr_G g X mX3_width.2.2.1 _ 0 0 0 [.ref (w + 116), .ref (w + 1), .int s, .int t, .null, .null, .null, .null] [] T (ws_put I w σ) L
  refine pr_iconst hA (0) dX3_width_0 (by decide) ?_
  refine pr_istore (ls' := [_, _, _, _, _, _, _, _]) hA dX3_width_1 (by decide) rfl ?_
  refine pr_iconst hA (nI 0) dX3_width_3 (by decide) ?_
  refine pr_istore (ls' := [_, _, _, _, _, _, _, _]) hA dX3_width_4 (by decide) rfl ?_
  have lp6 : ∀ (j k : Nat), nl - k = j → k ≤ nl → pr_G g X mX3_width.2.2.1 (pr_MQ g X (pr_R (some (.int (pt_width_r σ nl s t))) T (ws_put I w σ) L) pr_no 0 0) 0 0 6 [.ref (w + 116), .ref (w + 1), .int s, .int t, .int (pt_width_it6 σ nl s t k), .int (nI k), .null, .null] [] T (ws_put I w σ) L := by
    intro j
    induction j using Nat.strongRecOn with | ind j ih6 =>
    intro k hj6 hk6
    refine pr_iload hA dX3_width_6 rfl ?_
    refine pr_aload_n hA dX3_width_8 rfl ?_
    refine pr_getE (v := (nI nl)) hA f_X3_36 rfl (wk_1 hw) ((ws_val (by decide)).trans hnl) dX3_width_9 ?_
    refine pr_icmp_ge hA 77 dX3_width_12 (by decide) (fun c_12 => ?_) (fun c_12 => ?_)
    · have n_12 : nl ≤ k := (nI_leI (by omega) (by omega)).mp c_12
      have hex : nl = k := by omega
      subst hex
      refine pr_iload hA dX3_width_77 rfl ?_
      exact pr_ireturn hA rfl rfl (Nat.zero_le _) (Nat.zero_le _) dX3_width_79 ⟨rfl, rfl, rfl, rfl⟩
    · have n_12 : ¬ nl ≤ k := fun q => c_12 ((nI_leI (by omega) (by omega)).mpr q)
      refine pr_aload_n hA dX3_width_15 rfl ?_
      refine pr_iload hA dX3_width_16 rfl ?_
      refine pr_callVi hA [.int (nI k)] (c_available (pr_hl hA) hw (by omega)) v_X3_45 (wk_1 hw) (by decide) rfl rfl rfl (by decide) (Nat.zero_le _) (Nat.zero_le _) rfl (Nat.le_of_ble_eq_true rfl) dX3_width_18 ?_
      refine pr_istore (ls' := [_, _, _, _, _, _, _, _]) hA dX3_width_21 (by decide) rfl ?_
      refine pr_aload_n hA dX3_width_23 rfl ?_
      refine pr_iload hA dX3_width_24 rfl ?_
      refine pr_callVi hA [.int (nI k)] (c_isUp (pr_hl hA) hw) v_X3_49 (wk_1 hw) (by decide) rfl rfl rfl (by decide) (Nat.zero_le _) (Nat.zero_le _) rfl (Nat.le_of_ble_eq_true rfl) dX3_width_26 ?_
      refine pr_if_eq hA 71 dX3_width_29 (by decide) (fun c_29 => ?_) (fun c_29 => ?_)
      · refine pr_iinc (ls' := [_, _, _, _, _, _, _, _]) hA (nI (k + 1)) dX3_width_71 (by decide) rfl (nI_inc _) rfl ?_
        refine pr_goto hA 6 dX3_width_74 (by decide) ?_
        have hb := ih6 (nl - (k + 1)) (by omega) (k + 1) rfl (by omega)
        simp only [pt_width_it6, if_pos c_29] at hb
        exact pr_lessL (ls' := [.ref (w + 116), .ref (w + 1), .int s, .int t, .int (pt_width_it6 σ nl s t k), .int (nI (k + 1)), .null, .null]) ⟨.inr rfl, .inr rfl, .inr rfl, .inr rfl, .inr rfl, .inr rfl, .inl rfl, .inl rfl, trivial⟩ hb
      · refine pr_iload hA dX3_width_32 rfl ?_
        refine pr_iload hA dX3_width_34 rfl ?_
        refine pr_icmp_le hA 71 dX3_width_36 (by decide) (fun c_36 => ?_) (fun c_36 => ?_)
        · refine pr_iinc (ls' := [_, _, _, _, _, _, _, _]) hA (nI (k + 1)) dX3_width_71 (by decide) rfl (nI_inc _) rfl ?_
          refine pr_goto hA 6 dX3_width_74 (by decide) ?_
          have hb := ih6 (nl - (k + 1)) (by omega) (k + 1) rfl (by omega)
          simp only [pt_width_it6, if_neg c_29, if_pos c_36] at hb
          exact pr_lessL (ls' := [.ref (w + 116), .ref (w + 1), .int s, .int t, .int (pt_width_it6 σ nl s t k), .int (nI (k + 1)), .null, .null]) ⟨.inr rfl, .inr rfl, .inr rfl, .inr rfl, .inr rfl, .inr rfl, .inl rfl, .inl rfl, trivial⟩ hb
        · refine pr_aload_n hA dX3_width_39 rfl ?_
          refine pr_aload_n hA dX3_width_40 rfl ?_
          refine pr_iload_n hA dX3_width_41 rfl ?_
          refine pr_aload_n hA dX3_width_42 rfl ?_
          refine pr_iload hA dX3_width_43 rfl ?_
          refine pr_callVi hA [.int (lk_av σ k)] (c_withUnits (pr_hl hA) hw hnl (by omega)) v_X3_53 (wk_1 hw) (by decide) rfl rfl rfl (by decide) (Nat.zero_le _) (Nat.zero_le _) rfl (Nat.le_of_ble_eq_true rfl) dX3_width_45 ?_
          refine pr_callVi hA [.ref (w + 1), .int s, .int (lk_wu σ (lk_av σ k) nl &&& σ 1 7)] (c_pt_reach (pr_hl hA) hw hnl (by omega) (fun k hk => ⟨vin_eq rfl (hL k hk).1, vin_eq rfl (hL k hk).2⟩)) v_X3_56 (wk_116 hw) (by decide) rfl rfl rfl (by decide) (Nat.zero_le _) (Nat.zero_le _) rfl (Nat.le_of_ble_eq_true rfl) dX3_width_48 ?_
          refine pr_istore (ls' := [_, _, _, _, _, _, _, _]) hA dX3_width_51 (by decide) rfl ?_
          refine pr_iload hA dX3_width_53 rfl ?_
          refine pr_iload_n hA dX3_width_55 rfl ?_
          refine pr_ishr hA dX3_width_56 ?_
          refine pr_iconst hA (1) dX3_width_57 (by decide) ?_
          refine pr_iand hA dX3_width_58 ?_
          refine pr_join (c := (((pt_reach_r σ nl s (lk_wu σ (lk_av σ k) nl &&& σ 1 7)) >>> (t &&& 31)) &&& (1 : Int32)) = 0) (J := 69) (st := []) (pt_width_it6 σ nl s t k) (lk_av σ k) inferInstance (fun kt kf => ?_) ?_
          · refine pr_if_eq hA 67 dX3_width_59 (by decide) (fun c_59 => ?_) (fun c_59 => ?_)
            · refine pr_iload hA dX3_width_67 rfl ?_
              exact kt c_59
            · refine pr_iload hA dX3_width_62 rfl ?_
              refine pr_goto hA 69 dX3_width_64 (by decide) ?_
              exact kf c_59
          · refine pr_istore (ls' := [_, _, _, _, _, _, _, _]) hA dX3_width_69 (by decide) rfl ?_
            refine pr_iinc (ls' := [_, _, _, _, _, _, _, _]) hA (nI (k + 1)) dX3_width_71 (by decide) rfl (nI_inc _) rfl ?_
            refine pr_goto hA 6 dX3_width_74 (by decide) ?_
            have hb := ih6 (nl - (k + 1)) (by omega) (k + 1) rfl (by omega)
            simp only [pt_width_it6, if_neg c_29, if_neg c_36] at hb
            exact pr_lessL (ls' := [.ref (w + 116), .ref (w + 1), .int s, .int t, .int (if (((pt_reach_r σ nl s (lk_wu σ (lk_av σ k) nl &&& σ 1 7)) >>> (t &&& 31)) &&& (1 : Int32)) = 0 then (pt_width_it6 σ nl s t k) else (lk_av σ k)), .int (nI (k + 1)), .null, .null]) ⟨.inr rfl, .inr rfl, .inr rfl, .inr rfl, .inr rfl, .inr rfl, .inl rfl, .inl rfl, trivial⟩ hb
  exact (lp6 (nl - 0) 0 rfl (by omega))

noncomputable def pt_sum_pr (σ : pr_I) (b : Nat) : Nat → Int32
  | 0 => 0
  | k + 1 => pt_sum_pr σ b k + σ 5 (σ 117 (b + k)).toNatClampNeg
set_option maxRecDepth 100000 in
set_option maxHeartbeats 4000000 in
theorem c_pt_sum_pr {g : pr_C} {l : Launch} (hl : l.stackTraces = false) {T : pr_T} {I : pr_I} {L : pr_L} {w : Nat} {σ : pr_I} {ml b : Nat} (hw : pr_W T w) (hml : σ 116 1 = nI ml) (hml11 : ml ≤ 11) (hbl : b ≤ ml) (hp : ∀ k, k < ml → vp_in (σ 117 k) 24) : pr_M g l 1 0 0 mX3_sumAlong [.ref (w + 116), .ref (w + 5), .int (nI b)] T (ws_put I w σ) L (pr_R (some (.int (pt_sum_pr σ b (ml - b)))) T (ws_put I w σ) L) pr_no := by
  refine pr_ofG (by decide) rfl hl (Nat.le_of_ble_eq_true rfl) (fun X hA hX hXn hXt => ?_)
  subst hX
  show pr_G g X mX3_sumAlong.2.2.1 _ 0 0 0 [.ref (w + 116), .ref (w + 5), .int (nI b), .null, .null] [] T (ws_put I w σ) L
  refine pr_iconst hA (0) dX3_sumAlong_0 (by decide) ?_
  refine pr_istore_n (ls' := [_, _, _, _, _]) hA dX3_sumAlong_1 (by decide) rfl ?_
  refine pr_iload_n hA dX3_sumAlong_2 rfl ?_
  refine pr_istore (ls' := [_, _, _, _, _]) hA dX3_sumAlong_3 (by decide) rfl ?_
  have lp5 : ∀ (j k : Nat), ml - k = j → b ≤ k → k ≤ ml → pr_G g X mX3_sumAlong.2.2.1 (pr_MQ g X (pr_R (some (.int (pt_sum_pr σ b (ml - b)))) T (ws_put I w σ) L) pr_no 0 0) 0 0 5 [.ref (w + 116), .ref (w + 5), .int (nI b), .int (pt_sum_pr σ b (k - b)), .int (nI k)] [] T (ws_put I w σ) L := by
    intro j
    induction j using Nat.strongRecOn with | ind j ih =>
    intro k hj hbk hkn
    refine pr_iload hA dX3_sumAlong_5 rfl ?_
    refine pr_aload_n hA dX3_sumAlong_7 rfl ?_
    refine pr_getE (v := (nI ml)) hA f_X3_15 rfl (wk_116 hw) ((ws_val (by decide)).trans hml) dX3_sumAlong_8 ?_
    refine pr_icmp_ge hA 32 dX3_sumAlong_11 (by decide) (fun c_11 => ?_) (fun c_11 => ?_)
    · have n_11 : ml ≤ k := (nI_leI (by omega) (by omega)).mp c_11
      have hex : k = ml := by omega
      subst hex
      refine pr_iload_n hA dX3_sumAlong_32 rfl ?_
      exact pr_ireturn hA rfl rfl (Nat.zero_le _) (Nat.zero_le _) dX3_sumAlong_33 ⟨rfl, rfl, rfl, rfl⟩
    · have n_11 : ¬ ml ≤ k := fun q => c_11 ((nI_leI (by omega) (by omega)).mpr q)
      refine pr_iload_n hA dX3_sumAlong_14 rfl ?_
      refine pr_aload_n hA dX3_sumAlong_15 rfl ?_
      refine pr_aload_n hA dX3_sumAlong_16 rfl ?_
      refine pr_getR hA f_X3_9 rfl (wk_116 hw) (wf_116_0 hw) dX3_sumAlong_17 ?_
      refine pr_iload hA dX3_sumAlong_20 rfl ?_
      refine pr_ialdN (v := (σ 117 k)) hA (wk_117 hw) (by omega) (by omega) (ws_val (by decide)) dX3_sumAlong_22 ?_
      refine pr_ialdE (v := (σ 5 ((σ 117 k).toNatClampNeg))) hA (wk_5 hw) (hp k (by omega)) (ws_val (by decide)) dX3_sumAlong_23 ?_
      refine pr_iadd hA dX3_sumAlong_24 ?_
      refine pr_istore_n (ls' := [_, _, _, _, _]) hA dX3_sumAlong_25 (by decide) rfl ?_
      refine pr_iinc (ls' := [_, _, _, _, _]) hA (nI (k + 1)) dX3_sumAlong_26 (by decide) rfl (nI_inc _) rfl ?_
      refine pr_goto hA 5 dX3_sumAlong_29 (by decide) ?_
      have hb := ih (ml - (k + 1)) (by omega) (k + 1) rfl (by omega) (by omega)
      rw [show k + 1 - b = (k - b) + 1 from by omega] at hb
      simp only [pt_sum_pr, show b + (k - b) = k from by omega] at hb
      exact hb
  exact (by have h0 := lp5 (ml - b) b rfl (Nat.le_refl _) hbl; rw [Nat.sub_self] at h0; exact h0)

noncomputable def pt_sum_de (σ : pr_I) (b : Nat) : Nat → Int32
  | 0 => 0
  | k + 1 => pt_sum_de σ b k + σ 6 (σ 117 (b + k)).toNatClampNeg
set_option maxRecDepth 100000 in
set_option maxHeartbeats 4000000 in
theorem c_pt_sum_de {g : pr_C} {l : Launch} (hl : l.stackTraces = false) {T : pr_T} {I : pr_I} {L : pr_L} {w : Nat} {σ : pr_I} {ml b : Nat} (hw : pr_W T w) (hml : σ 116 1 = nI ml) (hml11 : ml ≤ 11) (hbl : b ≤ ml) (hp : ∀ k, k < ml → vp_in (σ 117 k) 24) : pr_M g l 1 0 0 mX3_sumAlong [.ref (w + 116), .ref (w + 6), .int (nI b)] T (ws_put I w σ) L (pr_R (some (.int (pt_sum_de σ b (ml - b)))) T (ws_put I w σ) L) pr_no := by
  refine pr_ofG (by decide) rfl hl (Nat.le_of_ble_eq_true rfl) (fun X hA hX hXn hXt => ?_)
  subst hX
  show pr_G g X mX3_sumAlong.2.2.1 _ 0 0 0 [.ref (w + 116), .ref (w + 6), .int (nI b), .null, .null] [] T (ws_put I w σ) L
  refine pr_iconst hA (0) dX3_sumAlong_0 (by decide) ?_
  refine pr_istore_n (ls' := [_, _, _, _, _]) hA dX3_sumAlong_1 (by decide) rfl ?_
  refine pr_iload_n hA dX3_sumAlong_2 rfl ?_
  refine pr_istore (ls' := [_, _, _, _, _]) hA dX3_sumAlong_3 (by decide) rfl ?_
  have lp5 : ∀ (j k : Nat), ml - k = j → b ≤ k → k ≤ ml → pr_G g X mX3_sumAlong.2.2.1 (pr_MQ g X (pr_R (some (.int (pt_sum_de σ b (ml - b)))) T (ws_put I w σ) L) pr_no 0 0) 0 0 5 [.ref (w + 116), .ref (w + 6), .int (nI b), .int (pt_sum_de σ b (k - b)), .int (nI k)] [] T (ws_put I w σ) L := by
    intro j
    induction j using Nat.strongRecOn with | ind j ih =>
    intro k hj hbk hkn
    refine pr_iload hA dX3_sumAlong_5 rfl ?_
    refine pr_aload_n hA dX3_sumAlong_7 rfl ?_
    refine pr_getE (v := (nI ml)) hA f_X3_15 rfl (wk_116 hw) ((ws_val (by decide)).trans hml) dX3_sumAlong_8 ?_
    refine pr_icmp_ge hA 32 dX3_sumAlong_11 (by decide) (fun c_11 => ?_) (fun c_11 => ?_)
    · have n_11 : ml ≤ k := (nI_leI (by omega) (by omega)).mp c_11
      have hex : k = ml := by omega
      subst hex
      refine pr_iload_n hA dX3_sumAlong_32 rfl ?_
      exact pr_ireturn hA rfl rfl (Nat.zero_le _) (Nat.zero_le _) dX3_sumAlong_33 ⟨rfl, rfl, rfl, rfl⟩
    · have n_11 : ¬ ml ≤ k := fun q => c_11 ((nI_leI (by omega) (by omega)).mpr q)
      refine pr_iload_n hA dX3_sumAlong_14 rfl ?_
      refine pr_aload_n hA dX3_sumAlong_15 rfl ?_
      refine pr_aload_n hA dX3_sumAlong_16 rfl ?_
      refine pr_getR hA f_X3_9 rfl (wk_116 hw) (wf_116_0 hw) dX3_sumAlong_17 ?_
      refine pr_iload hA dX3_sumAlong_20 rfl ?_
      refine pr_ialdN (v := (σ 117 k)) hA (wk_117 hw) (by omega) (by omega) (ws_val (by decide)) dX3_sumAlong_22 ?_
      refine pr_ialdE (v := (σ 6 ((σ 117 k).toNatClampNeg))) hA (wk_6 hw) (hp k (by omega)) (ws_val (by decide)) dX3_sumAlong_23 ?_
      refine pr_iadd hA dX3_sumAlong_24 ?_
      refine pr_istore_n (ls' := [_, _, _, _, _]) hA dX3_sumAlong_25 (by decide) rfl ?_
      refine pr_iinc (ls' := [_, _, _, _, _]) hA (nI (k + 1)) dX3_sumAlong_26 (by decide) rfl (nI_inc _) rfl ?_
      refine pr_goto hA 5 dX3_sumAlong_29 (by decide) ?_
      have hb := ih (ml - (k + 1)) (by omega) (k + 1) rfl (by omega) (by omega)
      rw [show k + 1 - b = (k - b) + 1 from by omega] at hb
      simp only [pt_sum_de, show b + (k - b) = k from by omega] at hb
      exact hb
  exact (by have h0 := lp5 (ml - b) b rfl (Nat.le_refl _) hbl; rw [Nat.sub_self] at h0; exact h0)

