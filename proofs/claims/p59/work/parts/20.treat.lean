theorem find_rl_in {σ : pr_I} {nl : Nat} {s t u : Int32} (h24 : nl ≤ 24) : ∀ (j k : Nat) (σ1 : pr_I) (x : Int32), 11 + 1 - k = j → k ≤ 11 → wI σ1 → σ1 116 1 = nI k → wI (pt_find_rl32 σ nl s t u j k σ1 x).1 ∧ ∃ q, q ≤ 11 ∧ (pt_find_rl32 σ nl s t u j k σ1 x).2 = nI q
  | 0, k, σ1, x, hj, hk, h, h1 => ⟨h, 0, by omega, rfl⟩
  | j + 1, k, σ1, x, hj, hk, h, h1 => by
    simp only [pt_find_rl32]
    by_cases c : nI 11 ≤ nI k
    · rw [if_pos c]; exact ⟨h, k, hk, h1⟩
    · have hlt : k < 11 := by
        rcases Nat.lt_or_ge k 11 with q | q
        · exact q
        · exact absurd ((nI_leI (by omega) (by omega)).mpr q) c
      rw [if_neg c]
      by_cases c2 : x = t
      · rw [if_pos c2]; exact ⟨h, k, hk, h1⟩
      · rw [if_neg c2]
        by_cases c3 : pt_first_r σ1 nl x u = -1
        · rw [if_pos c3]; exact ⟨h, 0, by omega, rfl⟩
        · rw [if_neg c3]
          exact find_rl_in h24 j (k + 1) _ _ (by omega) (by omega) (wI.upv (wI.upv h rfl (vp_in_mono (pt_first_in h24 c3) h24)) rfl (nI_vin (by omega) (by decide))) pr_upe
theorem wI_find {σ : pr_I} {nl : Nat} {s t u : Int32} (h24 : nl ≤ 24) (h : wI σ) : wI (pt_find σ nl s t u) := by
  have h0 : wI (pt_meas (pr_up σ 116 1 (0 : Int32)) nl t u) := wI_pt_meas (wI.upv h rfl (nI_vin (k := 0) (by decide) (by decide)))
  unfold pt_find
  split
  · exact h0
  · have := find_rl_in (σ := σ) (s := s) (t := t) (u := u) h24 12 0 _ s (by omega) (by omega) h0 (congrFun (pt_meas_keep (by decide)) _)
    rw [show sl 11 + 1 = 12 from by rw [sl_eq]]
    exact this.1
theorem find_len {σ : pr_I} {nl : Nat} {s t u : Int32} (h24 : nl ≤ 24) (h : wI σ) : ∃ q, q ≤ 11 ∧ pt_find_r σ nl s t u = nI q := by
  have h0 : wI (pt_meas (pr_up σ 116 1 (0 : Int32)) nl t u) := wI_pt_meas (wI.upv h rfl (nI_vin (k := 0) (by decide) (by decide)))
  unfold pt_find_r
  split
  · exact ⟨0, by omega, rfl⟩
  · have := find_rl_in (σ := σ) (s := s) (t := t) (u := u) h24 12 0 _ s (by omega) (by omega) h0 (congrFun (pt_meas_keep (by decide)) _)
    rw [show sl 11 + 1 = 12 from by rw [sl_eq]]
    exact this.2
noncomputable def pt_len (σ : pr_I) (nl : Nat) (s t u : Int32) : Nat := (pt_find_r σ nl s t u).toNatClampNeg
theorem pt_len_le {σ : pr_I} {nl : Nat} {s t u : Int32} (h24 : nl ≤ 24) (h : wI σ) : pt_len σ nl s t u ≤ 11 := by
  obtain ⟨q, hq, e⟩ := find_len (s := s) (t := t) (u := u) h24 h
  unfold pt_len; rw [e, nI_clamp (by omega)]; exact hq
theorem pt_len_eq {σ : pr_I} {nl : Nat} {s t u : Int32} (h24 : nl ≤ 24) (h : wI σ) : pt_find_r σ nl s t u = nI (pt_len σ nl s t u) := by
  obtain ⟨q, hq, e⟩ := find_len (s := s) (t := t) (u := u) h24 h
  unfold pt_len; rw [e, nI_clamp (by omega)]
noncomputable def w_beg (σ : pr_I) (r : Nat) : pr_I := (if (nI (pt_len σ (lkn σ) (σ 19 r) (σ 20 r) ((σ 1 7) &&& ((σ 28 r) ^^^ ((-1) : Int32))))) = 0 then (w_settle (pt_find σ (lkn σ) (σ 19 r) (σ 20 r) ((σ 1 7) &&& ((σ 28 r) ^^^ ((-1) : Int32)))) r (4 : Int32)) else (pr_up (pr_up (pr_up (pr_row (pt_find σ (lkn σ) (σ 19 r) (σ 20 r) ((σ 1 7) &&& ((σ 28 r) ^^^ ((-1) : Int32)))) (35 + r) (cp_row ((pt_find σ (lkn σ) (σ 19 r) (σ 20 r) ((σ 1 7) &&& ((σ 28 r) ^^^ ((-1) : Int32)))) 117) (σ (35 + r)) (pt_len σ (lkn σ) (σ 19 r) (σ 20 r) ((σ 1 7) &&& ((σ 28 r) ^^^ ((-1) : Int32)))))) 32 r (nI (pt_len σ (lkn σ) (σ 19 r) (σ 20 r) ((σ 1 7) &&& ((σ 28 r) ^^^ ((-1) : Int32)))))) 33 r (0 : Int32)) 23 r (0 : Int32)))
set_option maxRecDepth 100000 in
set_option maxHeartbeats 400000 in
theorem c_w_beg {g : pr_C} {l : Launch} (hl : l.stackTraces = false) {T : pr_T} {I : pr_I} {L : pr_L} {w : Nat} {σ : pr_I} {r : Nat} (hw : pr_W T w) (hI : wI σ) (hr : r < 40) : pr_M g l 4 0 0 mX6_beginAttempt [.ref w, .int (nI r)] T (ws_put I w σ) L (pr_R none T (ws_put I w (w_beg σ r)) L) pr_no := by
  refine pr_ofG (by decide) rfl hl (Nat.le_of_ble_eq_true rfl) (fun X hA hX hXn hXt => ?_)
  subst hX
  show pr_G g X mX6_beginAttempt.2.2.1 _ 0 0 0 [.ref w, .int (nI r), .null, .null] [] T (ws_put I w σ) L
  have hlen := pt_len_le (σ := σ) (nl := lkn σ) (s := σ 19 r) (t := σ 20 r) (u := (σ 1 7) &&& ((σ 28 r) ^^^ ((-1) : Int32))) (wI_nl24 hI) hI
  refine pr_aload_n hA dX6_beginAttempt_0 rfl ?_
  refine pr_getR hA f_X6_12 rfl (wk_0 hw) (wf_0_0 hw) dX6_beginAttempt_1 ?_
  refine pr_getE (v := (σ 1 7)) hA f_X6_66 rfl (wk_1 hw) (ws_val (by decide)) dX6_beginAttempt_4 ?_
  refine pr_aload_n hA dX6_beginAttempt_7 rfl ?_
  refine pr_getR hA f_X6_28 rfl (wk_0 hw) (wf_0_2 hw) dX6_beginAttempt_8 ?_
  refine pr_getR hA f_X6_110 rfl (wk_18 hw) (wf_18_9 hw) dX6_beginAttempt_11 ?_
  refine pr_iload_n hA dX6_beginAttempt_14 rfl ?_
  refine pr_ialdN (v := (σ 28 r)) hA (wk_28 hw) (by omega) (by omega) (ws_val (by decide)) dX6_beginAttempt_15 ?_
  refine pr_iconst hA ((-1)) dX6_beginAttempt_16 (by decide) ?_
  refine pr_ixor hA dX6_beginAttempt_17 ?_
  refine pr_iand hA dX6_beginAttempt_18 ?_
  refine pr_istore_n (ls' := [_, _, _, _]) hA dX6_beginAttempt_19 (by decide) rfl ?_
  refine pr_aload_n hA dX6_beginAttempt_20 rfl ?_
  refine pr_getR hA f_X6_35 rfl (wk_0 hw) (wf_0_3 hw) dX6_beginAttempt_21 ?_
  refine pr_aload_n hA dX6_beginAttempt_24 rfl ?_
  refine pr_getR hA f_X6_12 rfl (wk_0 hw) (wf_0_0 hw) dX6_beginAttempt_25 ?_
  refine pr_aload_n hA dX6_beginAttempt_28 rfl ?_
  refine pr_getR hA f_X6_28 rfl (wk_0 hw) (wf_0_2 hw) dX6_beginAttempt_29 ?_
  refine pr_getR hA f_X6_113 rfl (wk_18 hw) (wf_18_0 hw) dX6_beginAttempt_32 ?_
  refine pr_iload_n hA dX6_beginAttempt_35 rfl ?_
  refine pr_ialdN (v := (σ 19 r)) hA (wk_19 hw) (by omega) (by omega) (ws_val (by decide)) dX6_beginAttempt_36 ?_
  refine pr_aload_n hA dX6_beginAttempt_37 rfl ?_
  refine pr_getR hA f_X6_28 rfl (wk_0 hw) (wf_0_2 hw) dX6_beginAttempt_38 ?_
  refine pr_getR hA f_X6_116 rfl (wk_18 hw) (wf_18_1 hw) dX6_beginAttempt_41 ?_
  refine pr_iload_n hA dX6_beginAttempt_44 rfl ?_
  refine pr_ialdN (v := (σ 20 r)) hA (wk_20 hw) (by omega) (by omega) (ws_val (by decide)) dX6_beginAttempt_45 ?_
  refine pr_iload_n hA dX6_beginAttempt_46 rfl ?_
  have hv47 : wI σ := hI
  refine pr_callVi hA [.ref (w + 1), .int (σ 19 r), .int (σ 20 r), .int ((σ 1 7) &&& ((σ 28 r) ^^^ ((-1) : Int32)))] (c_pt_find (w := w) (σ := σ) (nl := (lkn σ)) (s := (σ 19 r)) (t := (σ 20 r)) (u := ((σ 1 7) &&& ((σ 28 r) ^^^ ((-1) : Int32)))) (pr_hl hA) hw (wI_nl hv47) (wI_nl24 hv47) (wI_L hv47) (hI 19 r 12 rfl)) v_X6_119 (wk_116 hw) (by decide) rfl rfl rfl (by decide) (Nat.zero_le _) (Nat.zero_le _) rfl (Nat.le_of_ble_eq_true rfl) dX6_beginAttempt_47 ?_
  rw [show (pt_find_r σ (lkn σ) (σ 19 r) (σ 20 r) ((σ 1 7) &&& ((σ 28 r) ^^^ ((-1) : Int32)))) = (nI (pt_len σ (lkn σ) (σ 19 r) (σ 20 r) ((σ 1 7) &&& ((σ 28 r) ^^^ ((-1) : Int32))))) from (pt_len_eq (wI_nl24 hI) hI)]
  refine pr_istore_n (ls' := [_, _, _, _]) hA dX6_beginAttempt_50 (by decide) rfl ?_
  refine pr_iload_n hA dX6_beginAttempt_51 rfl ?_
  refine pr_if_ne hA 62 dX6_beginAttempt_52 (by decide) (fun c_52 => ?_) (fun c_52 => ?_)
  · refine pr_aload_n hA dX6_beginAttempt_62 rfl ?_
    refine pr_getR hA f_X6_35 rfl (wk_0 hw) (wf_0_3 hw) dX6_beginAttempt_63 ?_
    refine pr_getR hA f_X6_126 rfl (wk_116 hw) (wf_116_0 hw) dX6_beginAttempt_66 ?_
    refine pr_iconst hA (nI 0) dX6_beginAttempt_69 (by decide) ?_
    refine pr_aload_n hA dX6_beginAttempt_70 rfl ?_
    refine pr_getR hA f_X6_28 rfl (wk_0 hw) (wf_0_2 hw) dX6_beginAttempt_71 ?_
    refine pr_getR hA f_X6_129 rfl (wk_18 hw) (wf_18_15 hw) dX6_beginAttempt_74 ?_
    refine pr_iload_n hA dX6_beginAttempt_77 rfl ?_
    refine pr_aaldN (t := 24) (n := 40) hA (Or.inl rfl) (wk_34 hw) (by omega) (by decide) (wf_p hw (by omega)) dX6_beginAttempt_78 ?_
    refine pr_iconst hA (nI 0) dX6_beginAttempt_79 (by decide) ?_
    refine pr_iload_n hA dX6_beginAttempt_80 rfl ?_
    refine pr_cpyE (I' := (ws_put I w (pr_row (pt_find σ (lkn σ) (σ 19 r) (σ 20 r) ((σ 1 7) &&& ((σ 28 r) ^^^ ((-1) : Int32)))) (35 + r) (cp_row ((pt_find σ (lkn σ) (σ 19 r) (σ 20 r) ((σ 1 7) &&& ((σ 28 r) ^^^ ((-1) : Int32)))) 117) (σ (35 + r)) (pt_len σ (lkn σ) (σ 19 r) (σ 20 r) ((σ 1 7) &&& ((σ 28 r) ^^^ ((-1) : Int32)))))))) hA ⟨kM_X6_57, kN_System_arraycopy__Ljava_lang_Object_ILjava_lang_Object_II_V, kT_System_arraycopy__Ljava_lang_Object_ILjava_lang_Object_II_V, kZ_J10⟩ (by decide) (wk_117 hw) (wk_p hw (by omega)) (by omega) (by omega) (by omega) (ws_row (by decide)) ((ws_row (by omega)).trans (fr_pt_find (by simp only [List.mem_cons, List.not_mem_nil, or_false, forall_eq_or_imp, forall_eq]; omega))) (ws_put_row (by omega)) (Nat.le_of_ble_eq_true rfl) dX6_beginAttempt_81 ?_
    refine pr_aload_n hA dX6_beginAttempt_84 rfl ?_
    refine pr_getR hA f_X6_28 rfl (wk_0 hw) (wf_0_2 hw) dX6_beginAttempt_85 ?_
    refine pr_getR hA f_X6_133 rfl (wk_18 hw) (wf_18_13 hw) dX6_beginAttempt_88 ?_
    refine pr_iload_n hA dX6_beginAttempt_91 rfl ?_
    refine pr_iload_n hA dX6_beginAttempt_92 rfl ?_
    refine pr_iastN (I' := (ws_put I w (pr_up (pr_row (pt_find σ (lkn σ) (σ 19 r) (σ 20 r) ((σ 1 7) &&& ((σ 28 r) ^^^ ((-1) : Int32)))) (35 + r) (cp_row ((pt_find σ (lkn σ) (σ 19 r) (σ 20 r) ((σ 1 7) &&& ((σ 28 r) ^^^ ((-1) : Int32)))) 117) (σ (35 + r)) (pt_len σ (lkn σ) (σ 19 r) (σ 20 r) ((σ 1 7) &&& ((σ 28 r) ^^^ ((-1) : Int32)))))) 32 r (nI (pt_len σ (lkn σ) (σ 19 r) (σ 20 r) ((σ 1 7) &&& ((σ 28 r) ^^^ ((-1) : Int32)))))))) hA (wk_32 hw) (by omega) (by omega) (ws_up (by decide)) dX6_beginAttempt_93 ?_
    refine pr_aload_n hA dX6_beginAttempt_94 rfl ?_
    refine pr_getR hA f_X6_28 rfl (wk_0 hw) (wf_0_2 hw) dX6_beginAttempt_95 ?_
    refine pr_getR hA f_X6_136 rfl (wk_18 hw) (wf_18_14 hw) dX6_beginAttempt_98 ?_
    refine pr_iload_n hA dX6_beginAttempt_101 rfl ?_
    refine pr_iconst hA (0) dX6_beginAttempt_102 (by decide) ?_
    refine pr_iastN (I' := (ws_put I w (pr_up (pr_up (pr_row (pt_find σ (lkn σ) (σ 19 r) (σ 20 r) ((σ 1 7) &&& ((σ 28 r) ^^^ ((-1) : Int32)))) (35 + r) (cp_row ((pt_find σ (lkn σ) (σ 19 r) (σ 20 r) ((σ 1 7) &&& ((σ 28 r) ^^^ ((-1) : Int32)))) 117) (σ (35 + r)) (pt_len σ (lkn σ) (σ 19 r) (σ 20 r) ((σ 1 7) &&& ((σ 28 r) ^^^ ((-1) : Int32)))))) 32 r (nI (pt_len σ (lkn σ) (σ 19 r) (σ 20 r) ((σ 1 7) &&& ((σ 28 r) ^^^ ((-1) : Int32)))))) 33 r (0 : Int32)))) hA (wk_33 hw) (by omega) (by omega) (ws_up (by decide)) dX6_beginAttempt_103 ?_
    refine pr_aload_n hA dX6_beginAttempt_104 rfl ?_
    refine pr_getR hA f_X6_28 rfl (wk_0 hw) (wf_0_2 hw) dX6_beginAttempt_105 ?_
    refine pr_getR hA f_X6_93 rfl (wk_18 hw) (wf_18_4 hw) dX6_beginAttempt_108 ?_
    refine pr_iload_n hA dX6_beginAttempt_111 rfl ?_
    refine pr_iconst hA (0) dX6_beginAttempt_112 (by decide) ?_
    refine pr_iastN (I' := (ws_put I w (pr_up (pr_up (pr_up (pr_row (pt_find σ (lkn σ) (σ 19 r) (σ 20 r) ((σ 1 7) &&& ((σ 28 r) ^^^ ((-1) : Int32)))) (35 + r) (cp_row ((pt_find σ (lkn σ) (σ 19 r) (σ 20 r) ((σ 1 7) &&& ((σ 28 r) ^^^ ((-1) : Int32)))) 117) (σ (35 + r)) (pt_len σ (lkn σ) (σ 19 r) (σ 20 r) ((σ 1 7) &&& ((σ 28 r) ^^^ ((-1) : Int32)))))) 32 r (nI (pt_len σ (lkn σ) (σ 19 r) (σ 20 r) ((σ 1 7) &&& ((σ 28 r) ^^^ ((-1) : Int32)))))) 33 r (0 : Int32)) 23 r (0 : Int32)))) hA (wk_23 hw) (by omega) (by omega) (ws_up (by decide)) dX6_beginAttempt_113 ?_
    exact pr_return hA rfl (Nat.zero_le _) (Nat.zero_le _) dX6_beginAttempt_114 ⟨rfl, rfl, (by simp only [w_beg, if_neg c_52]), rfl⟩
  · refine pr_aload_n hA dX6_beginAttempt_55 rfl ?_
    refine pr_iload_n hA dX6_beginAttempt_56 rfl ?_
    refine pr_iconst hA (4) dX6_beginAttempt_57 (by decide) ?_
    refine pr_callVv hA [.int (nI r), .int (4 : Int32)] (c_w_settle (w := w) (σ := (pt_find σ (lkn σ) (σ 19 r) (σ 20 r) ((σ 1 7) &&& ((σ 28 r) ^^^ ((-1) : Int32))))) (r := r) (s := (4 : Int32)) (pr_hl hA) hw (by omega)) v_X6_123 (wk_0 hw) (by decide) rfl rfl rfl (by decide) (Nat.zero_le _) (Nat.zero_le _) rfl (Nat.le_of_ble_eq_true rfl) dX6_beginAttempt_58 ?_
    exact pr_return hA rfl (Nat.zero_le _) (Nat.zero_le _) dX6_beginAttempt_61 ⟨rfl, rfl, (by simp only [w_beg, if_pos c_52]), rfl⟩

theorem fr_w_beg {σ : pr_I} {r : Nat} {o : Nat} (hms : ∀ m ∈ ([23, 25, 32, 33, 116, 117, 118] : List Nat), o ≠ m) (hp : o < 35 ∨ 115 < o) (hr40 : r < 40) : w_beg σ r o = σ o := by
  unfold w_beg
  simp only [List.mem_cons, List.not_mem_nil, or_false, forall_eq_or_imp, forall_eq] at hms
  by_cases c_52 : (nI (pt_len σ (lkn σ) (σ 19 r) (σ 20 r) ((σ 1 7) &&& ((σ 28 r) ^^^ ((-1) : Int32))))) = 0
  · refine (congrFun (if_pos c_52) o).trans ?_
    rw [fr_w_settle (by simp only [List.mem_cons, List.not_mem_nil, or_false, forall_eq_or_imp, forall_eq]; omega), fr_pt_find (by simp only [List.mem_cons, List.not_mem_nil, or_false, forall_eq_or_imp, forall_eq]; omega)]
  · refine (congrFun (if_neg c_52) o).trans ?_
    rw [pr_up_ne (by omega), pr_up_ne (by omega), pr_up_ne (by omega), pr_row_ne (by omega), fr_pt_find (by simp only [List.mem_cons, List.not_mem_nil, or_false, forall_eq_or_imp, forall_eq]; omega)]

theorem wI_w_beg {σ : pr_I} {r : Nat} (hr : r < 40) (hI : wI σ) : wI (w_beg σ r) := by
  unfold w_beg
  by_cases c_52 : (nI (pt_len σ (lkn σ) (σ 19 r) (σ 20 r) ((σ 1 7) &&& ((σ 28 r) ^^^ ((-1) : Int32))))) = 0
  · rw [if_pos c_52]
    exact (wI_w_settle (wI_find (wI_nl24 hI) hI))
  · rw [if_neg c_52]
    exact (wI.upn (wI.upv (wI.upv (wI.row (wI_find (wI_nl24 hI) hI) (fun k B q => by rw [wB_p hr] at q; cases q; unfold cp_row; split; exact wI_find (wI_nl24 hI) hI 117 k 24 rfl; exact hI (35 + r) k 24 (wB_p hr))) rfl (nI_vin (Nat.lt_succ_of_le (pt_len_le (wI_nl24 hI) hI)) (by decide))) rfl (nI_vin (k := 0) (by decide) (by decide))) rfl)
noncomputable def w_tr_it2 (σ : pr_I) (r : Nat) : Nat → pr_I
  | 0 => σ
  | k + 1 => (if ((w_tr_it2 σ r k) 25 r) = (σ 0 7) then (if ((w_tr_it2 σ r k) 23 r) = (7 : Int32) then (w_beg (w_tr_it2 σ r k) r) else (if ((w_tr_it2 σ r k) 23 r) = 0 then (if (w_fwd_r (w_tr_it2 σ r k) (tkn (w_tr_it2 σ r k)) r) = ((-1) : Int32) then (w_fwd (w_tr_it2 σ r k) (tkn (w_tr_it2 σ r k)) r) else (w_fail (w_fwd (w_tr_it2 σ r k) (tkn (w_tr_it2 σ r k)) r) (tkn (w_fwd (w_tr_it2 σ r k) (tkn (w_tr_it2 σ r k)) r)) r (w_fwd_r (w_tr_it2 σ r k) (tkn (w_tr_it2 σ r k)) r))) else (if (w_back_r (w_tr_it2 σ r k) r) = ((-1) : Int32) then (w_back (w_tr_it2 σ r k) r) else (w_fail (w_back (w_tr_it2 σ r k) r) (tkn (w_tr_it2 σ r k)) r (w_back_r (w_tr_it2 σ r k) r))))) else (w_tr_it2 σ r k))
theorem fr_w_tr_it2 {σ : pr_I} {r : Nat} {o : Nat} (hms : ∀ m ∈ ([7, 8, 9, 10, 11, 12, 13, 14, 15, 16, 17, 23, 24, 25, 26, 27, 28, 29, 30, 31, 32, 33, 116, 117, 118] : List Nat), o ≠ m) (hp : o < 35 ∨ 115 < o) (hr40 : r < 40) : ∀ {k : Nat}, (w_tr_it2 σ r k) o = σ o := by
  simp only [List.mem_cons, List.not_mem_nil, or_false, forall_eq_or_imp, forall_eq] at hms
  intro k
  induction k with
  | zero =>
    show σ o = σ o
    rfl
  | succ k ih =>
    by_cases c_21 : ((w_tr_it2 σ r k) 25 r) = (σ 0 7)
    · refine (congrFun (congrArg (fun z : pr_I => z) (if_pos c_21)) o).trans ?_
      by_cases c_37 : ((w_tr_it2 σ r k) 23 r) = (7 : Int32)
      · refine (congrFun (congrArg (fun z : pr_I => z) (if_pos c_37)) o).trans ?_
        show (w_beg (w_tr_it2 σ r k) r) o = σ o
        rw [fr_w_beg (by simp only [List.mem_cons, List.not_mem_nil, or_false, forall_eq_or_imp, forall_eq]; omega) (by omega) (by omega), ih]
      · refine (congrFun (congrArg (fun z : pr_I => z) (if_neg c_37)) o).trans ?_
        by_cases c_49 : ((w_tr_it2 σ r k) 23 r) = 0
        · refine (congrFun (congrArg (fun z : pr_I => z) (if_pos c_49)) o).trans ?_
          by_cases c_70 : (w_fwd_r (w_tr_it2 σ r k) (tkn (w_tr_it2 σ r k)) r) = ((-1) : Int32)
          · refine (congrFun (congrArg (fun z : pr_I => z) (if_pos c_70)) o).trans ?_
            show (w_fwd (w_tr_it2 σ r k) (tkn (w_tr_it2 σ r k)) r) o = σ o
            rw [fr_w_fwd (by simp only [List.mem_cons, List.not_mem_nil, or_false, forall_eq_or_imp, forall_eq]; omega) (by omega) (by omega), ih]
          · refine (congrFun (congrArg (fun z : pr_I => z) (if_neg c_70)) o).trans ?_
            show (w_fail (w_fwd (w_tr_it2 σ r k) (tkn (w_tr_it2 σ r k)) r) (tkn (w_fwd (w_tr_it2 σ r k) (tkn (w_tr_it2 σ r k)) r)) r (w_fwd_r (w_tr_it2 σ r k) (tkn (w_tr_it2 σ r k)) r)) o = σ o
            rw [fr_w_fail (by simp only [List.mem_cons, List.not_mem_nil, or_false, forall_eq_or_imp, forall_eq]; omega), fr_w_fwd (by simp only [List.mem_cons, List.not_mem_nil, or_false, forall_eq_or_imp, forall_eq]; omega) (by omega) (by omega), ih]
        · refine (congrFun (congrArg (fun z : pr_I => z) (if_neg c_49)) o).trans ?_
          by_cases c_70 : (w_back_r (w_tr_it2 σ r k) r) = ((-1) : Int32)
          · refine (congrFun (congrArg (fun z : pr_I => z) (if_pos c_70)) o).trans ?_
            show (w_back (w_tr_it2 σ r k) r) o = σ o
            rw [fr_w_back (by simp only [List.mem_cons, List.not_mem_nil, or_false, forall_eq_or_imp, forall_eq]; omega), ih]
          · refine (congrFun (congrArg (fun z : pr_I => z) (if_neg c_70)) o).trans ?_
            show (w_fail (w_back (w_tr_it2 σ r k) r) (tkn (w_tr_it2 σ r k)) r (w_back_r (w_tr_it2 σ r k) r)) o = σ o
            rw [fr_w_fail (by simp only [List.mem_cons, List.not_mem_nil, or_false, forall_eq_or_imp, forall_eq]; omega), fr_w_back (by simp only [List.mem_cons, List.not_mem_nil, or_false, forall_eq_or_imp, forall_eq]; omega), ih]
    · refine (congrFun (congrArg (fun z : pr_I => z) (if_neg c_21)) o).trans ?_
      show (w_tr_it2 σ r k) o = σ o
      rw [ih]

theorem st_w_tr_it2_21 {σ : pr_I} {r : Nat} {k : Nat} (c_21 : ¬ (((w_tr_it2 σ r k) 25 r) = (σ 0 7))) : ∀ j, w_tr_it2 σ r (k + j) = w_tr_it2 σ r k
  | 0 => rfl
  | j + 1 => by
    have ih := st_w_tr_it2_21 c_21 j
    show w_tr_it2 σ r ((k + j) + 1) = w_tr_it2 σ r k
    simp only [w_tr_it2, ih, if_neg c_21]
noncomputable def w_tr (σ : pr_I) (r : Nat) : pr_I := (w_tr_it2 σ r (sl 1000000))
theorem wI_w_tr_it2 {σ : pr_I} {r : Nat} (hr : r < 40) (hI : wI σ) : ∀ {k : Nat}, wI (w_tr_it2 σ r k) := by
  intro k
  induction k with
  | zero => exact hI
  | succ k ih =>
    unfold w_tr_it2
    by_cases c_21 : ((w_tr_it2 σ r k) 25 r) = (σ 0 7)
    · rw [if_pos c_21]
      by_cases c_37 : ((w_tr_it2 σ r k) 23 r) = (7 : Int32)
      · rw [if_pos c_37]
        exact (wI_w_beg (r := r) (by omega) ih)
      · rw [if_neg c_37]
        by_cases c_49 : ((w_tr_it2 σ r k) 23 r) = 0
        · rw [if_pos c_49]
          by_cases c_70 : (w_fwd_r (w_tr_it2 σ r k) (tkn (w_tr_it2 σ r k)) r) = ((-1) : Int32)
          · rw [if_pos c_70]
            exact (wI_w_fwd (n := (tkn (w_tr_it2 σ r k))) (r := r) (wI_n ih) (wI_n5 ih) (by omega) ih)
          · rw [if_neg c_70]
            exact (wI_w_fail (wI_w_fwd (n := (tkn (w_tr_it2 σ r k))) (r := r) (wI_n ih) (wI_n5 ih) (by omega) ih))
        · rw [if_neg c_49]
          by_cases c_70 : (w_back_r (w_tr_it2 σ r k) r) = ((-1) : Int32)
          · rw [if_pos c_70]
            exact (wI_w_back (r := r) (by omega) ih)
          · rw [if_neg c_70]
            exact (wI_w_fail (wI_w_back (r := r) (by omega) ih))
    · rw [if_neg c_21]
      exact ih
set_option maxRecDepth 100000 in
set_option maxHeartbeats 400000 in
theorem c_w_tr {g : pr_C} {l : Launch} (hl : l.stackTraces = false) {T : pr_T} {I : pr_I} {L : pr_L} {w : Nat} {σ : pr_I} {r : Nat} (hw : pr_W T w) (hI : wI σ) (hr : r < 40) : pr_M g l 6 0 0 mX6_treat [.ref w, .int (nI r)] T (ws_put I w σ) L (pr_R none T (ws_put I w (w_tr σ r)) L) pr_no := by
  refine pr_ofG (by decide) rfl hl (Nat.le_of_ble_eq_true rfl) (fun X hA hX hXn hXt => ?_)
  subst hX
  show pr_G g X mX6_treat.2.2.1 _ 0 0 0 [.ref w, .int (nI r), .null, .null, .null] [] T (ws_put I w σ) L
  have hsl1000000 := sl_eq 1000000
  refine pr_iconst hA (nI 0) dX6_treat_0 (by decide) ?_
  refine pr_istore_n (ls' := [_, _, _, _, _]) hA dX6_treat_1 (by decide) rfl ?_
  have lp2 : ∀ (j k : Nat), (sl 1000000) - k = j → k ≤ (sl 1000000) → pr_G g X mX6_treat.2.2.1 (pr_MQ g X (pr_R none T (ws_put I w (w_tr σ r)) L) pr_no 0 0) 0 0 2 [.ref w, .int (nI r), .int (nI k), .null, .null] [] T (ws_put I w (w_tr_it2 σ r k)) L := by
    intro j
    induction j using Nat.strongRecOn with | ind j ih2 =>
    intro k hj2 hk2
    refine pr_iload_n hA dX6_treat_2 rfl ?_
    refine pr_ldc hA kK_X6_89 dX6_treat_3 ?_
    rw [show (1000000 : Int32) = nI (sl 1000000) from by rw [sl_eq]; rfl]
    refine pr_icmp_ge hA 86 dX6_treat_5 (by decide) (fun c_5 => ?_) (fun c_5 => ?_)
    · have n_5 : (sl 1000000) ≤ k := (nI_leI (by omega) (by omega)).mp c_5
      have hex : (sl 1000000) = k := by omega
      subst hex
      exact pr_return hA rfl (Nat.zero_le _) (Nat.zero_le _) dX6_treat_86 ⟨rfl, rfl, rfl, rfl⟩
    · have n_5 : ¬ (sl 1000000) ≤ k := fun q => c_5 ((nI_leI (by omega) (by omega)).mpr q)
      refine pr_aload_n hA dX6_treat_8 rfl ?_
      refine pr_getR hA f_X6_28 rfl (wk_0 hw) (wf_0_2 hw) dX6_treat_9 ?_
      refine pr_getR hA f_X6_90 rfl (wk_18 hw) (wf_18_6 hw) dX6_treat_12 ?_
      refine pr_iload_n hA dX6_treat_15 rfl ?_
      refine pr_ialdN (v := ((w_tr_it2 σ r k) 25 r)) hA (wk_25 hw) (by omega) (by omega) (ws_val (by decide)) dX6_treat_16 ?_
      refine pr_aload_n hA dX6_treat_17 rfl ?_
      refine pr_getE (v := (σ 0 7)) hA f_X6_51 rfl (wk_0 hw) (ws_val0.trans (congrFun (fr_w_tr_it2 (by decide) (by decide) (by omega)) _)) dX6_treat_18 ?_
      refine pr_icmp_ne hA 86 dX6_treat_21 (by decide) (fun c_21 => ?_) (fun c_21 => ?_)
      · have hst := st_w_tr_it2_21 c_21 ((sl 1000000) - k)
        rw [show k + ((sl 1000000) - k) = (sl 1000000) from by omega] at hst
        refine pr_lessL (ls' := [.ref w, .int (nI r), .null, .null, .null]) ⟨.inr rfl, .inr rfl, .inl rfl, .inl rfl, .inl rfl, trivial⟩ ?_
        rw [← hst]
        exact pr_return hA rfl (Nat.zero_le _) (Nat.zero_le _) dX6_treat_86 ⟨rfl, rfl, rfl, rfl⟩
      · refine pr_aload_n hA dX6_treat_24 rfl ?_
        refine pr_getR hA f_X6_28 rfl (wk_0 hw) (wf_0_2 hw) dX6_treat_25 ?_
        refine pr_getR hA f_X6_93 rfl (wk_18 hw) (wf_18_4 hw) dX6_treat_28 ?_
        refine pr_iload_n hA dX6_treat_31 rfl ?_
        refine pr_ialdN (v := ((w_tr_it2 σ r k) 23 r)) hA (wk_23 hw) (by omega) (by omega) (ws_val (by decide)) dX6_treat_32 ?_
        refine pr_istore_n (ls' := [_, _, _, _, _]) hA dX6_treat_33 (by decide) rfl ?_
        refine pr_iload_n hA dX6_treat_34 rfl ?_
        refine pr_bipush hA (7) dX6_treat_35 (by decide) ?_
        refine pr_icmp_ne hA 48 dX6_treat_37 (by decide) (fun c_37 => ?_) (fun c_37 => ?_)
        · refine pr_iload_n hA dX6_treat_48 rfl ?_
          refine pr_if_ne hA 60 dX6_treat_49 (by decide) (fun c_49 => ?_) (fun c_49 => ?_)
          · refine pr_aload_n hA dX6_treat_60 rfl ?_
            refine pr_iload_n hA dX6_treat_61 rfl ?_
            refine pr_callVi hA [.int (nI r)] (c_w_back (w := w) (σ := (w_tr_it2 σ r k)) (r := r) (pr_hl hA) hw (by omega) (wI_bb (wI_w_tr_it2 (σ := σ) (r := r) (k := k) hr hI) hr)) v_X6_103 (wk_0 hw) (by decide) rfl rfl rfl (by decide) (Nat.zero_le _) (Nat.zero_le _) rfl (Nat.le_of_ble_eq_true rfl) dX6_treat_62 ?_
            refine pr_istore (ls' := [_, _, _, _, _]) hA dX6_treat_65 (by decide) rfl ?_
            refine pr_iload hA dX6_treat_67 rfl ?_
            refine pr_iconst hA ((-1)) dX6_treat_69 (by decide) ?_
            refine pr_icmp_eq hA 80 dX6_treat_70 (by decide) (fun c_70 => ?_) (fun c_70 => ?_)
            · refine pr_iinc (ls' := [_, _, _, _, _]) hA (nI (k + 1)) dX6_treat_80 (by decide) rfl (nI_inc _) rfl ?_
              refine pr_goto hA 2 dX6_treat_83 (by decide) ?_
              have hb := ih2 ((sl 1000000) - (k + 1)) (by omega) (k + 1) rfl (by omega)
              simp only [w_tr_it2, if_pos c_21, if_neg c_37, if_neg c_49, if_pos c_70] at hb
              exact pr_lessL (ls' := [.ref w, .int (nI r), .int (nI (k + 1)), .null, .null]) ⟨.inr rfl, .inr rfl, .inr rfl, .inl rfl, .inl rfl, trivial⟩ hb
            · refine pr_aload_n hA dX6_treat_73 rfl ?_
              refine pr_iload_n hA dX6_treat_74 rfl ?_
              refine pr_iload hA dX6_treat_75 rfl ?_
              have hv77 : wI (w_back (w_tr_it2 σ r k) r) := (wI_w_back (σ := (w_tr_it2 σ r k)) (r := r) (by omega) (wI_w_tr_it2 (σ := σ) (r := r) (k := k) hr hI))
              refine pr_callVv hA [.int (nI r), .int (w_back_r (w_tr_it2 σ r k) r)] (c_w_fail (w := w) (σ := (w_back (w_tr_it2 σ r k) r)) (n := (tkn (w_tr_it2 σ r k))) (r := r) (x := (w_back_r (w_tr_it2 σ r k) r)) (pr_hl hA) hw ((congrFun (fr_w_back (by decide)) _).trans (wI_n (wI_w_tr_it2 (σ := σ) (r := r) (k := k) hr hI))) (wI_n5 (wI_w_tr_it2 (σ := σ) (r := r) (k := k) hr hI)) (wI_B hv77) (by omega) (w_back_in (σ := w_tr_it2 σ r k) (r := r) hr (wI_w_tr_it2 (σ := σ) (r := r) (k := k) hr hI) c_70)) v_X6_106 (wk_0 hw) (by decide) rfl rfl rfl (by decide) (Nat.zero_le _) (Nat.zero_le _) rfl (Nat.le_of_ble_eq_true rfl) dX6_treat_77 ?_
              refine pr_iinc (ls' := [_, _, _, _, _]) hA (nI (k + 1)) dX6_treat_80 (by decide) rfl (nI_inc _) rfl ?_
              refine pr_goto hA 2 dX6_treat_83 (by decide) ?_
              have hb := ih2 ((sl 1000000) - (k + 1)) (by omega) (k + 1) rfl (by omega)
              simp only [w_tr_it2, if_pos c_21, if_neg c_37, if_neg c_49, if_neg c_70] at hb
              exact pr_lessL (ls' := [.ref w, .int (nI r), .int (nI (k + 1)), .null, .null]) ⟨.inr rfl, .inr rfl, .inr rfl, .inl rfl, .inl rfl, trivial⟩ hb
          · refine pr_aload_n hA dX6_treat_52 rfl ?_
            refine pr_iload_n hA dX6_treat_53 rfl ?_
            have hv54 : wI (w_tr_it2 σ r k) := (wI_w_tr_it2 (σ := σ) (r := r) (k := k) hr hI)
            refine pr_callVi hA [.int (nI r)] (c_w_fwd (w := w) (σ := (w_tr_it2 σ r k)) (n := (tkn (w_tr_it2 σ r k))) (r := r) (pr_hl hA) hw (wI_n hv54) (wI_n5 hv54) (by omega) (wI_fb (wI_w_tr_it2 (σ := σ) (r := r) (k := k) hr hI) hr)) v_X6_99 (wk_0 hw) (by decide) rfl rfl rfl (by decide) (Nat.zero_le _) (Nat.zero_le _) rfl (Nat.le_of_ble_eq_true rfl) dX6_treat_54 ?_
            refine pr_goto hA 65 dX6_treat_57 (by decide) ?_
            refine pr_istore (ls' := [_, _, _, _, _]) hA dX6_treat_65 (by decide) rfl ?_
            refine pr_iload hA dX6_treat_67 rfl ?_
            refine pr_iconst hA ((-1)) dX6_treat_69 (by decide) ?_
            refine pr_icmp_eq hA 80 dX6_treat_70 (by decide) (fun c_70 => ?_) (fun c_70 => ?_)
            · refine pr_iinc (ls' := [_, _, _, _, _]) hA (nI (k + 1)) dX6_treat_80 (by decide) rfl (nI_inc _) rfl ?_
              refine pr_goto hA 2 dX6_treat_83 (by decide) ?_
              have hb := ih2 ((sl 1000000) - (k + 1)) (by omega) (k + 1) rfl (by omega)
              simp only [w_tr_it2, if_pos c_21, if_neg c_37, if_pos c_49, if_pos c_70] at hb
              exact pr_lessL (ls' := [.ref w, .int (nI r), .int (nI (k + 1)), .null, .null]) ⟨.inr rfl, .inr rfl, .inr rfl, .inl rfl, .inl rfl, trivial⟩ hb
            · refine pr_aload_n hA dX6_treat_73 rfl ?_
              refine pr_iload_n hA dX6_treat_74 rfl ?_
              refine pr_iload hA dX6_treat_75 rfl ?_
              have hv77 : wI (w_fwd (w_tr_it2 σ r k) (tkn (w_tr_it2 σ r k)) r) := (wI_w_fwd (σ := (w_tr_it2 σ r k)) (n := (tkn (w_tr_it2 σ r k))) (r := r) (wI_n (wI_w_tr_it2 (σ := σ) (r := r) (k := k) hr hI)) (wI_n5 (wI_w_tr_it2 (σ := σ) (r := r) (k := k) hr hI)) (by omega) (wI_w_tr_it2 (σ := σ) (r := r) (k := k) hr hI))
              refine pr_callVv hA [.int (nI r), .int (w_fwd_r (w_tr_it2 σ r k) (tkn (w_tr_it2 σ r k)) r)] (c_w_fail (w := w) (σ := (w_fwd (w_tr_it2 σ r k) (tkn (w_tr_it2 σ r k)) r)) (n := (tkn (w_fwd (w_tr_it2 σ r k) (tkn (w_tr_it2 σ r k)) r))) (r := r) (x := (w_fwd_r (w_tr_it2 σ r k) (tkn (w_tr_it2 σ r k)) r)) (pr_hl hA) hw (wI_n hv77) (wI_n5 hv77) (wI_B hv77) (by omega) (w_fwd_in (σ := w_tr_it2 σ r k) (n := tkn (w_tr_it2 σ r k)) (r := r) hr (wI_w_tr_it2 (σ := σ) (r := r) (k := k) hr hI) c_70)) v_X6_106 (wk_0 hw) (by decide) rfl rfl rfl (by decide) (Nat.zero_le _) (Nat.zero_le _) rfl (Nat.le_of_ble_eq_true rfl) dX6_treat_77 ?_
              refine pr_iinc (ls' := [_, _, _, _, _]) hA (nI (k + 1)) dX6_treat_80 (by decide) rfl (nI_inc _) rfl ?_
              refine pr_goto hA 2 dX6_treat_83 (by decide) ?_
              have hb := ih2 ((sl 1000000) - (k + 1)) (by omega) (k + 1) rfl (by omega)
              simp only [w_tr_it2, if_pos c_21, if_neg c_37, if_pos c_49, if_neg c_70] at hb
              exact pr_lessL (ls' := [.ref w, .int (nI r), .int (nI (k + 1)), .null, .null]) ⟨.inr rfl, .inr rfl, .inr rfl, .inl rfl, .inl rfl, trivial⟩ hb
        · refine pr_aload_n hA dX6_treat_40 rfl ?_
          refine pr_iload_n hA dX6_treat_41 rfl ?_
          have hv42 : wI (w_tr_it2 σ r k) := (wI_w_tr_it2 (σ := σ) (r := r) (k := k) hr hI)
          refine pr_callVv hA [.int (nI r)] (c_w_beg (w := w) (σ := (w_tr_it2 σ r k)) (r := r) (pr_hl hA) hw hv42 (by omega)) v_X6_96 (wk_0 hw) (by decide) rfl rfl rfl (by decide) (Nat.zero_le _) (Nat.zero_le _) rfl (Nat.le_of_ble_eq_true rfl) dX6_treat_42 ?_
          refine pr_goto hA 80 dX6_treat_45 (by decide) ?_
          refine pr_iinc (ls' := [_, _, _, _, _]) hA (nI (k + 1)) dX6_treat_80 (by decide) rfl (nI_inc _) rfl ?_
          refine pr_goto hA 2 dX6_treat_83 (by decide) ?_
          have hb := ih2 ((sl 1000000) - (k + 1)) (by omega) (k + 1) rfl (by omega)
          simp only [w_tr_it2, if_pos c_21, if_pos c_37] at hb
          exact pr_lessL (ls' := [.ref w, .int (nI r), .int (nI (k + 1)), .null, .null]) ⟨.inr rfl, .inr rfl, .inr rfl, .inl rfl, .inl rfl, trivial⟩ hb
  exact (lp2 ((sl 1000000) - 0) 0 rfl (by omega))

theorem fr_w_tr {σ : pr_I} {r : Nat} {o : Nat} (hms : ∀ m ∈ ([7, 8, 9, 10, 11, 12, 13, 14, 15, 16, 17, 23, 24, 25, 26, 27, 28, 29, 30, 31, 32, 33, 116, 117, 118] : List Nat), o ≠ m) (hp : o < 35 ∨ 115 < o) (hr40 : r < 40) : w_tr σ r o = σ o := by
  unfold w_tr
  simp only [List.mem_cons, List.not_mem_nil, or_false, forall_eq_or_imp, forall_eq] at hms
  rw [fr_w_tr_it2 (by simp only [List.mem_cons, List.not_mem_nil, or_false, forall_eq_or_imp, forall_eq]; omega) (by omega) (by omega)]

theorem wI_w_tr {σ : pr_I} {r : Nat} (hr : r < 40) (hI : wI σ) : wI (w_tr σ r) := by
  unfold w_tr
  exact (wI_w_tr_it2 (σ := σ) (r := r) (k := (sl 1000000)) hr hI)
