theorem wI_rq_add {σ : pr_I} {nr : Nat} {f t u q now : Int32} (hnr40 : nr < 40) (hf : vp_in f 12) (ht : vp_in t 12) (h : wI σ) : wI (rq_add σ nr f t u q now) := by
  unfold rq_add
  exact (wI.upv (wI.upv (wI.upv (wI.upn (wI.upn (wI.upn (wI.upn (wI.upn (wI.upn (wI.upn (wI.upn (wI.upn (wI.upn (wI.upn (wI.upv (wI.upv h rfl hf) rfl ht) rfl) rfl) rfl) rfl) rfl) rfl) rfl) rfl) rfl) rfl) rfl) rfl (nI_vin (k := 0) (by decide) (by decide))) rfl (nI_vin (k := 0) (by decide) (by decide))) rfl (nI_vin (by omega) (by decide)))
noncomputable def w_mk_r (σ : pr_I) (s : Int32) (t : Int32) (u : Int32) (q : Int32) : Int32 := (if (nI (rqn σ)) < (nI 40) then (nI (rqn σ)) else ((-2) : Int32))
noncomputable def w_mk (σ : pr_I) (s : Int32) (t : Int32) (u : Int32) (q : Int32) : pr_I := (if (nI (rqn σ)) < (nI 40) then (w_tr (rq_add σ (rqn σ) s t u q (σ 0 7)) (rqn σ)) else σ)
set_option maxRecDepth 100000 in
set_option maxHeartbeats 400000 in
theorem c_w_mk {g : pr_C} {l : Launch} (hl : l.stackTraces = false) {T : pr_T} {I : pr_I} {L : pr_L} {w : Nat} {σ : pr_I} {s : Int32} {t : Int32} {u : Int32} {q : Int32} (hw : pr_W T w) (hI : wI σ) (hs : vp_in s 12) (ht : vp_in t 12) : pr_M g l 7 0 0 mX6_makeRequest [.ref w, .int s, .int t, .int u, .int q] T (ws_put I w σ) L (pr_R (some (.int (w_mk_r σ s t u q))) T (ws_put I w (w_mk σ s t u q)) L) pr_no := by
  refine pr_ofG (by decide) rfl hl (Nat.le_of_ble_eq_true rfl) (fun X hA hX hXn hXt => ?_)
  subst hX
  show pr_G g X mX6_makeRequest.2.2.1 _ 0 0 0 [.ref w, .int s, .int t, .int u, .int q, .null] [] T (ws_put I w σ) L
  have hr4 := wI_nr4 hI
  refine pr_aload_n hA dX6_makeRequest_0 rfl ?_
  refine pr_getR hA f_X6_28 rfl (wk_0 hw) (wf_0_2 hw) dX6_makeRequest_1 ?_
  refine pr_getE (v := (nI (rqn σ))) hA f_X6_70 rfl (wk_18 hw) ((ws_val (by decide)).trans (wI_nr hI)) dX6_makeRequest_4 ?_
  refine pr_istore (ls' := [_, _, _, _, _, _]) hA dX6_makeRequest_7 (by decide) rfl ?_
  refine pr_iload hA dX6_makeRequest_9 rfl ?_
  refine pr_bipush hA (nI 40) dX6_makeRequest_11 (by decide) ?_
  refine pr_icmp_lt hA 19 dX6_makeRequest_13 (by decide) (fun c_13 => ?_) (fun c_13 => ?_)
  · have n_13 : (rqn σ) < 40 := (nI_ltI (by omega) (by omega)).mp c_13
    have n40 : rqn σ < 40 := n_13
    refine pr_aload_n hA dX6_makeRequest_19 rfl ?_
    refine pr_getR hA f_X6_28 rfl (wk_0 hw) (wf_0_2 hw) dX6_makeRequest_20 ?_
    refine pr_iload_n hA dX6_makeRequest_23 rfl ?_
    refine pr_iload_n hA dX6_makeRequest_24 rfl ?_
    refine pr_iload_n hA dX6_makeRequest_25 rfl ?_
    refine pr_iload hA dX6_makeRequest_26 rfl ?_
    refine pr_aload_n hA dX6_makeRequest_28 rfl ?_
    refine pr_getE (v := (σ 0 7)) hA f_X6_51 rfl (wk_0 hw) ws_val0 dX6_makeRequest_29 ?_
    refine pr_callVv hA [.int s, .int t, .int u, .int q, .int (σ 0 7)] (c_rq_add (w := w) (σ := σ) (nr := (rqn σ)) (f := s) (t := t) (u := u) (q := q) (now := (σ 0 7)) (pr_hl hA) hw (wI_nr hI) n40) v_X6_81 (wk_18 hw) (by decide) rfl rfl rfl (by decide) (Nat.zero_le _) (Nat.zero_le _) rfl (Nat.le_of_ble_eq_true rfl) dX6_makeRequest_32 ?_
    refine pr_aload_n hA dX6_makeRequest_35 rfl ?_
    refine pr_iload hA dX6_makeRequest_36 rfl ?_
    have hv38 : wI (rq_add σ (rqn σ) s t u q (σ 0 7)) := (wI_rq_add (σ := σ) (nr := (rqn σ)) n40 hs ht hI)
    refine pr_callVv hA [.int (nI (rqn σ))] (c_w_tr (w := w) (σ := (rq_add σ (rqn σ) s t u q (σ 0 7))) (r := (rqn σ)) (pr_hl hA) hw hv38 n40) v_X6_85 (wk_0 hw) (by decide) rfl rfl rfl (by decide) (Nat.zero_le _) (Nat.zero_le _) rfl (Nat.le_of_ble_eq_true rfl) dX6_makeRequest_38 ?_
    refine pr_iload hA dX6_makeRequest_41 rfl ?_
    exact pr_ireturn hA rfl rfl (Nat.zero_le _) (Nat.zero_le _) dX6_makeRequest_43 ⟨(by simp only [w_mk_r, if_pos c_13]), rfl, (by simp only [w_mk, if_pos c_13]), rfl⟩
  · have n_13 : ¬ (rqn σ) < 40 := fun q => c_13 ((nI_ltI (by omega) (by omega)).mpr q)
    refine pr_bipush hA ((-2)) dX6_makeRequest_16 (by decide) ?_
    exact pr_ireturn hA rfl rfl (Nat.zero_le _) (Nat.zero_le _) dX6_makeRequest_18 ⟨(by simp only [w_mk_r, if_neg c_13]), rfl, (by simp only [w_mk, if_neg c_13]), rfl⟩

theorem wI_w_mk {σ : pr_I} {s t u q : Int32} (hs : vp_in s 12) (ht : vp_in t 12) (hI : wI σ) : wI (w_mk σ s t u q) := by
  have hr4 := wI_nr4 hI
  unfold w_mk
  split
  · rename_i c
    have n40 : rqn σ < 40 := (nI_ltI (by omega) (by decide)).mp c
    exact wI_w_tr n40 (wI_rq_add n40 hs ht hI)
  · exact hI
theorem fr_w_mk {σ : pr_I} {s : Int32} {t : Int32} {u : Int32} {q : Int32} {o : Nat} (hms : ∀ m ∈ ([7, 8, 9, 10, 11, 12, 13, 14, 15, 16, 17, 18, 19, 20, 21, 22, 23, 24, 25, 26, 27, 28, 29, 30, 31, 32, 33, 116, 117, 118] : List Nat), o ≠ m) (hp : o < 35 ∨ 115 < o) : w_mk σ s t u q o = σ o := by
  simp only [List.mem_cons, List.not_mem_nil, or_false, forall_eq_or_imp, forall_eq] at hms
  unfold w_mk
  by_cases n40 : rqn σ < 40
  · rw [if_pos ((nI_ltI (by omega) (by decide)).mpr n40), fr_w_tr (by simp only [List.mem_cons, List.not_mem_nil, or_false, forall_eq_or_imp, forall_eq]; omega) hp n40, fr_rq_add (by simp only [List.mem_cons, List.not_mem_nil, or_false, forall_eq_or_imp, forall_eq]; omega)]
  · by_cases c : (nI (rqn σ)) < (nI 40)
    · rw [if_pos c]; exact absurd ((nI_ltI (by unfold rqn; exact Int32.toNatClampNeg_lt _) (by decide)).mp c) n40
    · rw [if_neg c]

noncomputable def w_pn_it34 (σ : pr_I) (lat : Int32) : Nat → pr_I
  | 0 => (w_end (w_exp (pr_up σ 0 7 (if (w_next_r σ (tkn σ) (rqn σ)) = ((-1) : Int32) then lat else (if (w_next_r σ (tkn σ) (rqn σ)) ≤ lat then (w_next_r σ (tkn σ) (rqn σ)) else lat))) (tkn σ)) (tkn σ) (rqn σ))
  | k + 1 => (w_tr (w_pn_it34 σ lat k) k)
theorem fr_w_pn_it34 {σ : pr_I} {lat : Int32} {o : Nat} (hms : ∀ m ∈ ([7, 8, 9, 10, 11, 12, 13, 14, 15, 16, 17, 23, 24, 25, 26, 27, 28, 29, 30, 31, 32, 33, 116, 117, 118] : List Nat), o ≠ m) (hp : o < 35 ∨ 115 < o) : ∀ {k : Nat}, k ≤ 40 → (w_pn_it34 σ lat k) o = (w_end (w_exp (pr_up σ 0 7 (if (w_next_r σ (tkn σ) (rqn σ)) = ((-1) : Int32) then lat else (if (w_next_r σ (tkn σ) (rqn σ)) ≤ lat then (w_next_r σ (tkn σ) (rqn σ)) else lat))) (tkn σ)) (tkn σ) (rqn σ)) o := by
  simp only [List.mem_cons, List.not_mem_nil, or_false, forall_eq_or_imp, forall_eq] at hms
  intro k
  induction k with
  | zero =>
    intro _
    show (w_end (w_exp (pr_up σ 0 7 (if (w_next_r σ (tkn σ) (rqn σ)) = ((-1) : Int32) then lat else (if (w_next_r σ (tkn σ) (rqn σ)) ≤ lat then (w_next_r σ (tkn σ) (rqn σ)) else lat))) (tkn σ)) (tkn σ) (rqn σ)) o = (w_end (w_exp (pr_up σ 0 7 (if (w_next_r σ (tkn σ) (rqn σ)) = ((-1) : Int32) then lat else (if (w_next_r σ (tkn σ) (rqn σ)) ≤ lat then (w_next_r σ (tkn σ) (rqn σ)) else lat))) (tkn σ)) (tkn σ) (rqn σ)) o
    rfl
  | succ k ih =>
    intro hk40
    have ih := ih (by omega)
    show (w_tr (w_pn_it34 σ lat k) k) o = (w_end (w_exp (pr_up σ 0 7 (if (w_next_r σ (tkn σ) (rqn σ)) = ((-1) : Int32) then lat else (if (w_next_r σ (tkn σ) (rqn σ)) ≤ lat then (w_next_r σ (tkn σ) (rqn σ)) else lat))) (tkn σ)) (tkn σ) (rqn σ)) o
    rw [fr_w_tr (by simp only [List.mem_cons, List.not_mem_nil, or_false, forall_eq_or_imp, forall_eq]; omega) (by omega) (by omega), ih]

noncomputable def w_pn (σ : pr_I) (lat : Int32) : pr_I := (w_pn_it34 σ lat (rqn σ))
theorem wI_w_pn_it34 {σ : pr_I} {lat : Int32} (hI : wI σ) : ∀ k, k ≤ 40 → wI (w_pn_it34 σ lat k)
  | 0, _ => wI_w_end (wI_w_exp (wI.upn hI rfl))
  | k + 1, hk => wI_w_tr (by omega) (wI_w_pn_it34 hI k (by omega))
set_option maxRecDepth 100000 in
set_option maxHeartbeats 400000 in
theorem c_w_pn {g : pr_C} {l : Launch} (hl : l.stackTraces = false) {T : pr_T} {I : pr_I} {L : pr_L} {w : Nat} {σ : pr_I} {lat : Int32} (hw : pr_W T w) (hI : wI σ) : pr_M g l 7 0 0 mX6_passNext [.ref w, .int lat] T (ws_put I w σ) L (pr_R none T (ws_put I w (w_pn σ lat)) L) pr_no := by
  refine pr_ofG (by decide) rfl hl (Nat.le_of_ble_eq_true rfl) (fun X hA hX hXn hXt => ?_)
  subst hX
  show pr_G g X mX6_passNext.2.2.1 _ 0 0 0 [.ref w, .int lat, .null, .null] [] T (ws_put I w σ) L
  have hr4 := wI_nr4 hI
  refine pr_aload_n hA dX6_passNext_0 rfl ?_
  have hv1 : wI σ := hI
  refine pr_callVi hA [] (c_w_next (w := w) (σ := σ) (n := (tkn σ)) (nr := (rqn σ)) (pr_hl hA) hw (wI_n hv1) (wI_n5 hv1) (wI_nr hv1) (wI_nr4 hv1)) v_X6_230 (wk_0 hw) (by decide) rfl rfl rfl (by decide) (Nat.zero_le _) (Nat.zero_le _) rfl (Nat.le_of_ble_eq_true rfl) dX6_passNext_1 ?_
  refine pr_istore_n (ls' := [_, _, _, _]) hA dX6_passNext_4 (by decide) rfl ?_
  refine pr_aload_n hA dX6_passNext_5 rfl ?_
  refine pr_iload_n hA dX6_passNext_6 rfl ?_
  refine pr_iconst hA ((-1)) dX6_passNext_7 (by decide) ?_
  refine pr_join (c := (w_next_r σ (tkn σ) (rqn σ)) = ((-1) : Int32)) (J := 21) (st := [.ref w]) lat (if (w_next_r σ (tkn σ) (rqn σ)) ≤ lat then (w_next_r σ (tkn σ) (rqn σ)) else lat) inferInstance (fun kt kf => ?_) ?_
  · refine pr_icmp_eq hA 16 dX6_passNext_8 (by decide) (fun c_8 => ?_) (fun c_8 => ?_)
    · refine pr_iload_n hA dX6_passNext_16 rfl ?_
      refine pr_goto hA 21 dX6_passNext_17 (by decide) ?_
      exact kt c_8
    · refine pr_iload_n hA dX6_passNext_11 rfl ?_
      refine pr_iload_n hA dX6_passNext_12 rfl ?_
      refine pr_join (c := (w_next_r σ (tkn σ) (rqn σ)) ≤ lat) (J := 21) (st := [.ref w]) (w_next_r σ (tkn σ) (rqn σ)) lat inferInstance (fun kt kf => ?_) ?_
      · refine pr_icmp_le hA 20 dX6_passNext_13 (by decide) (fun c_13 => ?_) (fun c_13 => ?_)
        · refine pr_iload_n hA dX6_passNext_20 rfl ?_
          exact kt c_13
        · refine pr_iload_n hA dX6_passNext_16 rfl ?_
          refine pr_goto hA 21 dX6_passNext_17 (by decide) ?_
          exact kf c_13
      · exact kf c_8
  · refine pr_putE (I' := (ws_put I w (pr_up σ 0 7 (if (w_next_r σ (tkn σ) (rqn σ)) = ((-1) : Int32) then lat else (if (w_next_r σ (tkn σ) (rqn σ)) ≤ lat then (w_next_r σ (tkn σ) (rqn σ)) else lat))))) hA f_X6_51 rfl (wk_0 hw) ws_up0 dX6_passNext_21 ?_
    refine pr_aload_n hA dX6_passNext_24 rfl ?_
    have hv25 : wI (pr_up σ 0 7 (if (w_next_r σ (tkn σ) (rqn σ)) = ((-1) : Int32) then lat else (if (w_next_r σ (tkn σ) (rqn σ)) ≤ lat then (w_next_r σ (tkn σ) (rqn σ)) else lat))) := (wI.upn hI rfl)
    refine pr_callVv hA [] (c_w_exp (w := w) (σ := (pr_up σ 0 7 (if (w_next_r σ (tkn σ) (rqn σ)) = ((-1) : Int32) then lat else (if (w_next_r σ (tkn σ) (rqn σ)) ≤ lat then (w_next_r σ (tkn σ) (rqn σ)) else lat)))) (n := (tkn σ)) (pr_hl hA) hw ((pr_upv (by decide)).trans (wI_n hI)) (wI_n5 hI) (wI_B hv25)) v_X6_233 (wk_0 hw) (by decide) rfl rfl rfl (by decide) (Nat.zero_le _) (Nat.zero_le _) rfl (Nat.le_of_ble_eq_true rfl) dX6_passNext_25 ?_
    refine pr_aload_n hA dX6_passNext_28 rfl ?_
    have hv29 : wI (w_exp (pr_up σ 0 7 (if (w_next_r σ (tkn σ) (rqn σ)) = ((-1) : Int32) then lat else (if (w_next_r σ (tkn σ) (rqn σ)) ≤ lat then (w_next_r σ (tkn σ) (rqn σ)) else lat))) (tkn σ)) := (wI_w_exp (σ := (pr_up σ 0 7 (if (w_next_r σ (tkn σ) (rqn σ)) = ((-1) : Int32) then lat else (if (w_next_r σ (tkn σ) (rqn σ)) ≤ lat then (w_next_r σ (tkn σ) (rqn σ)) else lat)))) (wI.upn hI rfl))
    refine pr_callVv hA [] (c_w_end (w := w) (σ := (w_exp (pr_up σ 0 7 (if (w_next_r σ (tkn σ) (rqn σ)) = ((-1) : Int32) then lat else (if (w_next_r σ (tkn σ) (rqn σ)) ≤ lat then (w_next_r σ (tkn σ) (rqn σ)) else lat))) (tkn σ))) (n := (tkn σ)) (nr := (rqn σ)) (pr_hl hA) hw ((congrFun (fr_w_exp (by decide)) _).trans ((pr_upv (by decide)).trans (wI_n hI))) (wI_n5 hI) (wI_B hv29) ((congrFun (fr_w_exp (by decide)) _).trans ((pr_upv (by decide)).trans (wI_nr hI))) (wI_nr4 hI)) v_X6_236 (wk_0 hw) (by decide) rfl rfl rfl (by decide) (Nat.zero_le _) (Nat.zero_le _) rfl (Nat.le_of_ble_eq_true rfl) dX6_passNext_29 ?_
    refine pr_iconst hA (nI 0) dX6_passNext_32 (by decide) ?_
    refine pr_istore_n (ls' := [_, _, _, _]) hA dX6_passNext_33 (by decide) rfl ?_
    have lp34 : ∀ (j k : Nat), (rqn σ) - k = j → k ≤ (rqn σ) → pr_G g X mX6_passNext.2.2.1 (pr_MQ g X (pr_R none T (ws_put I w (w_pn σ lat)) L) pr_no 0 0) 0 0 34 [.ref w, .int lat, .int (w_next_r σ (tkn σ) (rqn σ)), .int (nI k)] [] T (ws_put I w (w_pn_it34 σ lat k)) L := by
      intro j
      induction j using Nat.strongRecOn with | ind j ih34 =>
      intro k hj34 hk34
      refine pr_iload_n hA dX6_passNext_34 rfl ?_
      refine pr_aload_n hA dX6_passNext_35 rfl ?_
      refine pr_getR hA f_X6_28 rfl (wk_0 hw) (wf_0_2 hw) dX6_passNext_36 ?_
      refine pr_getE (v := (nI (rqn σ))) hA f_X6_70 rfl (wk_18 hw) ((ws_val (by decide)).trans ((congrFun (fr_w_pn_it34 (by decide) (by decide) (by omega)) _).trans ((congrFun (fr_w_end (by decide)) _).trans ((congrFun (fr_w_exp (by decide)) _).trans ((pr_upv (by decide)).trans (wI_nr hI)))))) dX6_passNext_39 ?_
      refine pr_icmp_ge hA 56 dX6_passNext_42 (by decide) (fun c_42 => ?_) (fun c_42 => ?_)
      · have n_42 : (rqn σ) ≤ k := (nI_leI (by omega) (by omega)).mp c_42
        have hex : (rqn σ) = k := by omega
        subst hex
        exact pr_return hA rfl (Nat.zero_le _) (Nat.zero_le _) dX6_passNext_56 ⟨rfl, rfl, rfl, rfl⟩
      · have n_42 : ¬ (rqn σ) ≤ k := fun q => c_42 ((nI_leI (by omega) (by omega)).mpr q)
        refine pr_aload_n hA dX6_passNext_45 rfl ?_
        refine pr_iload_n hA dX6_passNext_46 rfl ?_
        have hv47 : wI (w_pn_it34 σ lat k) := (wI_w_pn_it34 (σ := σ) (lat := lat) hI k (by omega))
        refine pr_callVv hA [.int (nI k)] (c_w_tr (w := w) (σ := (w_pn_it34 σ lat k)) (r := k) (pr_hl hA) hw hv47 (by omega)) v_X6_85 (wk_0 hw) (by decide) rfl rfl rfl (by decide) (Nat.zero_le _) (Nat.zero_le _) rfl (Nat.le_of_ble_eq_true rfl) dX6_passNext_47 ?_
        refine pr_iinc (ls' := [_, _, _, _]) hA (nI (k + 1)) dX6_passNext_50 (by decide) rfl (nI_inc _) rfl ?_
        refine pr_goto hA 34 dX6_passNext_53 (by decide) ?_
        have hb := ih34 ((rqn σ) - (k + 1)) (by omega) (k + 1) rfl (by omega)
        simp only [w_pn_it34] at hb
        exact hb
    exact (lp34 ((rqn σ) - 0) 0 rfl (by omega))


theorem wI_w_pn {σ : pr_I} {lat : Int32} (hI : wI σ) : wI (w_pn σ lat) := wI_w_pn_it34 hI _ (wI_nr4 hI)
noncomputable def w_pt_it2 (σ : pr_I) (lat : Int32) : Nat → pr_I
  | 0 => σ
  | k + 1 => (if lat ≤ ((w_pt_it2 σ lat k) 0 7) then (w_pt_it2 σ lat k) else (w_pn (w_pt_it2 σ lat k) lat))

theorem st_w_pt_it2_13 {σ : pr_I} {lat : Int32} {k : Nat} (c_13 : lat ≤ ((w_pt_it2 σ lat k) 0 7)) : ∀ j, w_pt_it2 σ lat (k + j) = w_pt_it2 σ lat k
  | 0 => rfl
  | j + 1 => by
    have ih := st_w_pt_it2_13 c_13 j
    show w_pt_it2 σ lat ((k + j) + 1) = w_pt_it2 σ lat k
    simp only [w_pt_it2, ih, if_pos c_13]
noncomputable def w_pt (σ : pr_I) (lat : Int32) : pr_I := (w_pt_it2 σ lat (sl 1000000))
theorem wI_w_pt_it2 {σ : pr_I} {lat : Int32} (hI : wI σ) : ∀ k, wI (w_pt_it2 σ lat k)
  | 0 => hI
  | k + 1 => by
    have ih := wI_w_pt_it2 (σ := σ) (lat := lat) hI k
    simp only [w_pt_it2]
    (repeat' split) <;> first | exact ih | exact wI_w_pn ih
set_option maxRecDepth 100000 in
set_option maxHeartbeats 400000 in
theorem c_w_pt {g : pr_C} {l : Launch} (hl : l.stackTraces = false) {T : pr_T} {I : pr_I} {L : pr_L} {w : Nat} {σ : pr_I} {lat : Int32} (hw : pr_W T w) (hI : wI σ) : pr_M g l 8 0 0 mX6_passTo [.ref w, .int lat] T (ws_put I w σ) L (pr_R none T (ws_put I w (w_pt σ lat)) L) pr_no := by
  refine pr_ofG (by decide) rfl hl (Nat.le_of_ble_eq_true rfl) (fun X hA hX hXn hXt => ?_)
  subst hX
  show pr_G g X mX6_passTo.2.2.1 _ 0 0 0 [.ref w, .int lat, .null] [] T (ws_put I w σ) L
  have hsl1000000 := sl_eq 1000000
  refine pr_iconst hA (nI 0) dX6_passTo_0 (by decide) ?_
  refine pr_istore_n (ls' := [_, _, _]) hA dX6_passTo_1 (by decide) rfl ?_
  have lp2 : ∀ (j k : Nat), (sl 1000000) - k = j → k ≤ (sl 1000000) → pr_G g X mX6_passTo.2.2.1 (pr_MQ g X (pr_R none T (ws_put I w (w_pt σ lat)) L) pr_no 0 0) 0 0 2 [.ref w, .int lat, .int (nI k)] [] T (ws_put I w (w_pt_it2 σ lat k)) L := by
    intro j
    induction j using Nat.strongRecOn with | ind j ih2 =>
    intro k hj2 hk2
    refine pr_iload_n hA dX6_passTo_2 rfl ?_
    refine pr_ldc hA kK_X6_89 dX6_passTo_3 ?_
    rw [show (1000000 : Int32) = nI (sl 1000000) from by rw [sl_eq]; rfl]
    refine pr_icmp_ge hA 27 dX6_passTo_5 (by decide) (fun c_5 => ?_) (fun c_5 => ?_)
    · have n_5 : (sl 1000000) ≤ k := (nI_leI (by omega) (by omega)).mp c_5
      have hex : (sl 1000000) = k := by omega
      subst hex
      exact pr_return hA rfl (Nat.zero_le _) (Nat.zero_le _) dX6_passTo_27 ⟨rfl, rfl, rfl, rfl⟩
    · have n_5 : ¬ (sl 1000000) ≤ k := fun q => c_5 ((nI_leI (by omega) (by omega)).mpr q)
      refine pr_aload_n hA dX6_passTo_8 rfl ?_
      refine pr_getE (v := ((w_pt_it2 σ lat k) 0 7)) hA f_X6_51 rfl (wk_0 hw) ws_val0 dX6_passTo_9 ?_
      refine pr_iload_n hA dX6_passTo_12 rfl ?_
      refine pr_icmp_ge hA 27 dX6_passTo_13 (by decide) (fun c_13 => ?_) (fun c_13 => ?_)
      · have hst := st_w_pt_it2_13 c_13 ((sl 1000000) - k)
        rw [show k + ((sl 1000000) - k) = (sl 1000000) from by omega] at hst
        refine pr_lessL (ls' := [.ref w, .int lat, .null]) ⟨.inr rfl, .inr rfl, .inl rfl, trivial⟩ ?_
        rw [← hst]
        exact pr_return hA rfl (Nat.zero_le _) (Nat.zero_le _) dX6_passTo_27 ⟨rfl, rfl, rfl, rfl⟩
      · refine pr_aload_n hA dX6_passTo_16 rfl ?_
        refine pr_iload_n hA dX6_passTo_17 rfl ?_
        have hv18 : wI (w_pt_it2 σ lat k) := (wI_w_pt_it2 (σ := σ) (lat := lat) hI k)
        refine pr_callVv hA [.int lat] (c_w_pn (w := w) (σ := (w_pt_it2 σ lat k)) (lat := lat) (pr_hl hA) hw hv18) v_X6_239 (wk_0 hw) (by decide) rfl rfl rfl (by decide) (Nat.zero_le _) (Nat.zero_le _) rfl (Nat.le_of_ble_eq_true rfl) dX6_passTo_18 ?_
        refine pr_iinc (ls' := [_, _, _]) hA (nI (k + 1)) dX6_passTo_21 (by decide) rfl (nI_inc _) rfl ?_
        refine pr_goto hA 2 dX6_passTo_24 (by decide) ?_
        have hb := ih2 ((sl 1000000) - (k + 1)) (by omega) (k + 1) rfl (by omega)
        simp only [w_pt_it2, if_neg c_13] at hb
        exact hb
  exact (lp2 ((sl 1000000) - 0) 0 rfl (by omega))

theorem wI_w_pt {σ : pr_I} {lat : Int32} (hI : wI σ) : wI (w_pt σ lat) := wI_w_pt_it2 hI _
noncomputable def w_pa_it14 (σ : pr_I) (r : Nat) : Nat → pr_I
  | 0 => σ
  | k + 1 => (if ((σ 0 7) + (2000 : Int32)) ≤ ((w_pa_it14 σ r k) 0 7) then (w_pa_it14 σ r k) else (if (rq_way_r (w_pa_it14 σ r k) r) = 0 then (w_pa_it14 σ r k) else (w_pn (w_pa_it14 σ r k) ((σ 0 7) + (2000 : Int32)))))

theorem st_w_pa_it14_26 {σ : pr_I} {r : Nat} {k : Nat} (c_26 : ((σ 0 7) + (2000 : Int32)) ≤ ((w_pa_it14 σ r k) 0 7)) : ∀ j, w_pa_it14 σ r (k + j) = w_pa_it14 σ r k
  | 0 => rfl
  | j + 1 => by
    have ih := st_w_pa_it14_26 c_26 j
    show w_pa_it14 σ r ((k + j) + 1) = w_pa_it14 σ r k
    simp only [w_pa_it14, ih, if_pos c_26]
theorem st_w_pa_it14_37 {σ : pr_I} {r : Nat} {k : Nat} (c_26 : ¬ (((σ 0 7) + (2000 : Int32)) ≤ ((w_pa_it14 σ r k) 0 7))) (c_37 : (rq_way_r (w_pa_it14 σ r k) r) = 0) : ∀ j, w_pa_it14 σ r (k + j) = w_pa_it14 σ r k
  | 0 => rfl
  | j + 1 => by
    have ih := st_w_pa_it14_37 c_26 c_37 j
    show w_pa_it14 σ r ((k + j) + 1) = w_pa_it14 σ r k
    simp only [w_pa_it14, ih, if_neg c_26, if_pos c_37]
noncomputable def w_pa_r (σ : pr_I) (r : Nat) : Int32 := (if ((w_pa_it14 σ r (sl 1000000)) 23 r) = (2 : Int32) then (((w_pa_it14 σ r (sl 1000000)) 0 7) - (σ 0 7)) else ((-1) : Int32))
noncomputable def w_pa (σ : pr_I) (r : Nat) : pr_I := (w_pa_it14 σ r (sl 1000000))
theorem wI_w_pa_it14 {σ : pr_I} {r : Nat} (hI : wI σ) : ∀ k, wI (w_pa_it14 σ r k)
  | 0 => hI
  | k + 1 => by
    have ih := wI_w_pa_it14 (σ := σ) (r := r) hI k
    simp only [w_pa_it14]
    (repeat' split) <;> first | exact ih | exact wI_w_pn ih
set_option maxRecDepth 100000 in
set_option maxHeartbeats 400000 in
theorem c_w_pa {g : pr_C} {l : Launch} (hl : l.stackTraces = false) {T : pr_T} {I : pr_I} {L : pr_L} {w : Nat} {σ : pr_I} {r : Nat} (hw : pr_W T w) (hI : wI σ) (hr : r < 40) : pr_M g l 8 0 0 mX6_passUntilActive [.ref w, .int (nI r)] T (ws_put I w σ) L (pr_R (some (.int (w_pa_r σ r))) T (ws_put I w (w_pa σ r)) L) pr_no := by
  refine pr_ofG (by decide) rfl hl (Nat.le_of_ble_eq_true rfl) (fun X hA hX hXn hXt => ?_)
  subst hX
  show pr_G g X mX6_passUntilActive.2.2.1 _ 0 0 0 [.ref w, .int (nI r), .null, .null, .null] [] T (ws_put I w σ) L
  have hsl1000000 := sl_eq 1000000
  refine pr_aload_n hA dX6_passUntilActive_0 rfl ?_
  refine pr_getE (v := (σ 0 7)) hA f_X6_51 rfl (wk_0 hw) ws_val0 dX6_passUntilActive_1 ?_
  refine pr_istore_n (ls' := [_, _, _, _, _]) hA dX6_passUntilActive_4 (by decide) rfl ?_
  refine pr_iload_n hA dX6_passUntilActive_5 rfl ?_
  refine pr_sipush hA (2000) dX6_passUntilActive_6 (by decide) ?_
  refine pr_iadd hA dX6_passUntilActive_9 ?_
  refine pr_istore_n (ls' := [_, _, _, _, _]) hA dX6_passUntilActive_10 (by decide) rfl ?_
  refine pr_iconst hA (nI 0) dX6_passUntilActive_11 (by decide) ?_
  refine pr_istore (ls' := [_, _, _, _, _]) hA dX6_passUntilActive_12 (by decide) rfl ?_
  have lp14 : ∀ (j k : Nat), (sl 1000000) - k = j → k ≤ (sl 1000000) → pr_G g X mX6_passUntilActive.2.2.1 (pr_MQ g X (pr_R (some (.int (w_pa_r σ r))) T (ws_put I w (w_pa σ r)) L) pr_no 0 0) 0 0 14 [.ref w, .int (nI r), .int (σ 0 7), .int ((σ 0 7) + (2000 : Int32)), .int (nI k)] [] T (ws_put I w (w_pa_it14 σ r k)) L := by
    intro j
    induction j using Nat.strongRecOn with | ind j ih14 =>
    intro k hj14 hk14
    refine pr_iload hA dX6_passUntilActive_14 rfl ?_
    refine pr_ldc hA kK_X6_89 dX6_passUntilActive_16 ?_
    rw [show (1000000 : Int32) = nI (sl 1000000) from by rw [sl_eq]; rfl]
    refine pr_icmp_ge hA 51 dX6_passUntilActive_18 (by decide) (fun c_18 => ?_) (fun c_18 => ?_)
    · have n_18 : (sl 1000000) ≤ k := (nI_leI (by omega) (by omega)).mp c_18
      have hex : (sl 1000000) = k := by omega
      subst hex
      refine pr_aload_n hA dX6_passUntilActive_51 rfl ?_
      refine pr_getR hA f_X6_28 rfl (wk_0 hw) (wf_0_2 hw) dX6_passUntilActive_52 ?_
      refine pr_getR hA f_X6_93 rfl (wk_18 hw) (wf_18_4 hw) dX6_passUntilActive_55 ?_
      refine pr_iload_n hA dX6_passUntilActive_58 rfl ?_
      refine pr_ialdN (v := ((w_pa_it14 σ r (sl 1000000)) 23 r)) hA (wk_23 hw) (by omega) (by omega) (ws_val (by decide)) dX6_passUntilActive_59 ?_
      refine pr_iconst hA (2) dX6_passUntilActive_60 (by decide) ?_
      refine pr_join (c := ((w_pa_it14 σ r (sl 1000000)) 23 r) = (2 : Int32)) (J := 74) (st := []) (((w_pa_it14 σ r (sl 1000000)) 0 7) - (σ 0 7)) ((-1) : Int32) inferInstance (fun kt kf => ?_) ?_
      · refine pr_icmp_ne hA 73 dX6_passUntilActive_61 (by decide) (fun c_61 => ?_) (fun c_61 => ?_)
        · refine pr_iconst hA ((-1)) dX6_passUntilActive_73 (by decide) ?_
          exact kf c_61
        · refine pr_aload_n hA dX6_passUntilActive_64 rfl ?_
          refine pr_getE (v := ((w_pa_it14 σ r (sl 1000000)) 0 7)) hA f_X6_51 rfl (wk_0 hw) ws_val0 dX6_passUntilActive_65 ?_
          refine pr_iload_n hA dX6_passUntilActive_68 rfl ?_
          refine pr_isub hA dX6_passUntilActive_69 ?_
          refine pr_goto hA 74 dX6_passUntilActive_70 (by decide) ?_
          exact kt c_61
      · exact pr_ireturn hA rfl rfl (Nat.zero_le _) (Nat.zero_le _) dX6_passUntilActive_74 ⟨rfl, rfl, rfl, rfl⟩
    · have n_18 : ¬ (sl 1000000) ≤ k := fun q => c_18 ((nI_leI (by omega) (by omega)).mpr q)
      refine pr_aload_n hA dX6_passUntilActive_21 rfl ?_
      refine pr_getE (v := ((w_pa_it14 σ r k) 0 7)) hA f_X6_51 rfl (wk_0 hw) ws_val0 dX6_passUntilActive_22 ?_
      refine pr_iload_n hA dX6_passUntilActive_25 rfl ?_
      refine pr_icmp_ge hA 51 dX6_passUntilActive_26 (by decide) (fun c_26 => ?_) (fun c_26 => ?_)
      · have hst := st_w_pa_it14_26 c_26 ((sl 1000000) - k)
        rw [show k + ((sl 1000000) - k) = (sl 1000000) from by omega] at hst
        refine pr_lessL (ls' := [.ref w, .int (nI r), .int (σ 0 7), .int ((σ 0 7) + (2000 : Int32)), .null]) ⟨.inr rfl, .inr rfl, .inr rfl, .inr rfl, .inl rfl, trivial⟩ ?_
        rw [← hst]
        refine pr_aload_n hA dX6_passUntilActive_51 rfl ?_
        refine pr_getR hA f_X6_28 rfl (wk_0 hw) (wf_0_2 hw) dX6_passUntilActive_52 ?_
        refine pr_getR hA f_X6_93 rfl (wk_18 hw) (wf_18_4 hw) dX6_passUntilActive_55 ?_
        refine pr_iload_n hA dX6_passUntilActive_58 rfl ?_
        refine pr_ialdN (v := ((w_pa_it14 σ r (sl 1000000)) 23 r)) hA (wk_23 hw) (by omega) (by omega) (ws_val (by decide)) dX6_passUntilActive_59 ?_
        refine pr_iconst hA (2) dX6_passUntilActive_60 (by decide) ?_
        refine pr_join (c := ((w_pa_it14 σ r (sl 1000000)) 23 r) = (2 : Int32)) (J := 74) (st := []) (((w_pa_it14 σ r (sl 1000000)) 0 7) - (σ 0 7)) ((-1) : Int32) inferInstance (fun kt kf => ?_) ?_
        · refine pr_icmp_ne hA 73 dX6_passUntilActive_61 (by decide) (fun c_61 => ?_) (fun c_61 => ?_)
          · refine pr_iconst hA ((-1)) dX6_passUntilActive_73 (by decide) ?_
            exact kf c_61
          · refine pr_aload_n hA dX6_passUntilActive_64 rfl ?_
            refine pr_getE (v := ((w_pa_it14 σ r (sl 1000000)) 0 7)) hA f_X6_51 rfl (wk_0 hw) ws_val0 dX6_passUntilActive_65 ?_
            refine pr_iload_n hA dX6_passUntilActive_68 rfl ?_
            refine pr_isub hA dX6_passUntilActive_69 ?_
            refine pr_goto hA 74 dX6_passUntilActive_70 (by decide) ?_
            exact kt c_61
        · exact pr_ireturn hA rfl rfl (Nat.zero_le _) (Nat.zero_le _) dX6_passUntilActive_74 ⟨rfl, rfl, rfl, rfl⟩
      · refine pr_aload_n hA dX6_passUntilActive_29 rfl ?_
        refine pr_getR hA f_X6_28 rfl (wk_0 hw) (wf_0_2 hw) dX6_passUntilActive_30 ?_
        refine pr_iload_n hA dX6_passUntilActive_33 rfl ?_
        refine pr_callVi hA [.int (nI r)] (c_rq_way (w := w) (σ := (w_pa_it14 σ r k)) (r := r) (pr_hl hA) hw (by omega)) v_X6_242 (wk_18 hw) (by decide) rfl rfl rfl (by decide) (Nat.zero_le _) (Nat.zero_le _) rfl (Nat.le_of_ble_eq_true rfl) dX6_passUntilActive_34 ?_
        refine pr_if_eq hA 51 dX6_passUntilActive_37 (by decide) (fun c_37 => ?_) (fun c_37 => ?_)
        · have hst := st_w_pa_it14_37 c_26 c_37 ((sl 1000000) - k)
          rw [show k + ((sl 1000000) - k) = (sl 1000000) from by omega] at hst
          refine pr_lessL (ls' := [.ref w, .int (nI r), .int (σ 0 7), .int ((σ 0 7) + (2000 : Int32)), .null]) ⟨.inr rfl, .inr rfl, .inr rfl, .inr rfl, .inl rfl, trivial⟩ ?_
          rw [← hst]
          refine pr_aload_n hA dX6_passUntilActive_51 rfl ?_
          refine pr_getR hA f_X6_28 rfl (wk_0 hw) (wf_0_2 hw) dX6_passUntilActive_52 ?_
          refine pr_getR hA f_X6_93 rfl (wk_18 hw) (wf_18_4 hw) dX6_passUntilActive_55 ?_
          refine pr_iload_n hA dX6_passUntilActive_58 rfl ?_
          refine pr_ialdN (v := ((w_pa_it14 σ r (sl 1000000)) 23 r)) hA (wk_23 hw) (by omega) (by omega) (ws_val (by decide)) dX6_passUntilActive_59 ?_
          refine pr_iconst hA (2) dX6_passUntilActive_60 (by decide) ?_
          refine pr_join (c := ((w_pa_it14 σ r (sl 1000000)) 23 r) = (2 : Int32)) (J := 74) (st := []) (((w_pa_it14 σ r (sl 1000000)) 0 7) - (σ 0 7)) ((-1) : Int32) inferInstance (fun kt kf => ?_) ?_
          · refine pr_icmp_ne hA 73 dX6_passUntilActive_61 (by decide) (fun c_61 => ?_) (fun c_61 => ?_)
            · refine pr_iconst hA ((-1)) dX6_passUntilActive_73 (by decide) ?_
              exact kf c_61
            · refine pr_aload_n hA dX6_passUntilActive_64 rfl ?_
              refine pr_getE (v := ((w_pa_it14 σ r (sl 1000000)) 0 7)) hA f_X6_51 rfl (wk_0 hw) ws_val0 dX6_passUntilActive_65 ?_
              refine pr_iload_n hA dX6_passUntilActive_68 rfl ?_
              refine pr_isub hA dX6_passUntilActive_69 ?_
              refine pr_goto hA 74 dX6_passUntilActive_70 (by decide) ?_
              exact kt c_61
          · exact pr_ireturn hA rfl rfl (Nat.zero_le _) (Nat.zero_le _) dX6_passUntilActive_74 ⟨rfl, rfl, rfl, rfl⟩
        · refine pr_aload_n hA dX6_passUntilActive_40 rfl ?_
          refine pr_iload_n hA dX6_passUntilActive_41 rfl ?_
          have hv42 : wI (w_pa_it14 σ r k) := (wI_w_pa_it14 (σ := σ) (r := r) hI k)
          refine pr_callVv hA [.int ((σ 0 7) + (2000 : Int32))] (c_w_pn (w := w) (σ := (w_pa_it14 σ r k)) (lat := ((σ 0 7) + (2000 : Int32))) (pr_hl hA) hw hv42) v_X6_239 (wk_0 hw) (by decide) rfl rfl rfl (by decide) (Nat.zero_le _) (Nat.zero_le _) rfl (Nat.le_of_ble_eq_true rfl) dX6_passUntilActive_42 ?_
          refine pr_iinc (ls' := [_, _, _, _, _]) hA (nI (k + 1)) dX6_passUntilActive_45 (by decide) rfl (nI_inc _) rfl ?_
          refine pr_goto hA 14 dX6_passUntilActive_48 (by decide) ?_
          have hb := ih14 ((sl 1000000) - (k + 1)) (by omega) (k + 1) rfl (by omega)
          simp only [w_pa_it14, if_neg c_26, if_neg c_37] at hb
          exact hb
  exact (lp14 ((sl 1000000) - 0) 0 rfl (by omega))

theorem wI_w_pa {σ : pr_I} {r : Nat} (hI : wI σ) : wI (w_pa σ r) := wI_w_pa_it14 hI _
noncomputable def w_pv_it15 (σ : pr_I) (k0 : Nat) (u : Int32) : Nat → pr_I
  | 0 => σ
  | k + 1 => (if ((σ 0 7) + (2000 : Int32)) ≤ ((w_pv_it15 σ k0 u k) 0 7) then (w_pv_it15 σ k0 u k) else (if u ≤ (lk_av (w_pv_it15 σ k0 u k) k0) then (w_pv_it15 σ k0 u k) else (w_pn (w_pv_it15 σ k0 u k) ((σ 0 7) + (2000 : Int32)))))

theorem st_w_pv_it15_28 {σ : pr_I} {k0 : Nat} {u : Int32} {k : Nat} (c_28 : ((σ 0 7) + (2000 : Int32)) ≤ ((w_pv_it15 σ k0 u k) 0 7)) : ∀ j, w_pv_it15 σ k0 u (k + j) = w_pv_it15 σ k0 u k
  | 0 => rfl
  | j + 1 => by
    have ih := st_w_pv_it15_28 c_28 j
    show w_pv_it15 σ k0 u ((k + j) + 1) = w_pv_it15 σ k0 u k
    simp only [w_pv_it15, ih, if_pos c_28]
theorem st_w_pv_it15_40 {σ : pr_I} {k0 : Nat} {u : Int32} {k : Nat} (c_28 : ¬ (((σ 0 7) + (2000 : Int32)) ≤ ((w_pv_it15 σ k0 u k) 0 7))) (c_40 : u ≤ (lk_av (w_pv_it15 σ k0 u k) k0)) : ∀ j, w_pv_it15 σ k0 u (k + j) = w_pv_it15 σ k0 u k
  | 0 => rfl
  | j + 1 => by
    have ih := st_w_pv_it15_40 c_28 c_40 j
    show w_pv_it15 σ k0 u ((k + j) + 1) = w_pv_it15 σ k0 u k
    simp only [w_pv_it15, ih, if_neg c_28, if_pos c_40]
noncomputable def w_pv_r (σ : pr_I) (k0 : Nat) (u : Int32) : Int32 := (if (lk_av (w_pv_it15 σ k0 u (sl 1000000)) k0) < u then ((-1) : Int32) else (((w_pv_it15 σ k0 u (sl 1000000)) 0 7) - (σ 0 7)))
noncomputable def w_pv (σ : pr_I) (k0 : Nat) (u : Int32) : pr_I := (w_pv_it15 σ k0 u (sl 1000000))
theorem wI_w_pv_it15 {σ : pr_I} {k0 : Nat} {u : Int32} (hI : wI σ) : ∀ k, wI (w_pv_it15 σ k0 u k)
  | 0 => hI
  | k + 1 => by
    have ih := wI_w_pv_it15 (σ := σ) (k0 := k0) (u := u) hI k
    simp only [w_pv_it15]
    (repeat' split) <;> first | exact ih | exact wI_w_pn ih
theorem wI_w_pv {σ : pr_I} {k0 : Nat} {u : Int32} (hI : wI σ) : wI (w_pv σ k0 u) := wI_w_pv_it15 hI _
noncomputable def w_pq_it19 (σ : pr_I) : Nat → pr_I × Int32
  | 0 => (σ, (w_next_r σ (tkn σ) (rqn σ)))
  | k + 1 => (if ((w_pq_it19 σ k).2) = ((-1) : Int32) then ((w_pq_it19 σ k).1, ((w_pq_it19 σ k).2)) else (if ((σ 0 7) + (20000 : Int32)) < ((w_pq_it19 σ k).2) then ((w_pq_it19 σ k).1, ((w_pq_it19 σ k).2)) else ((w_pn (w_pq_it19 σ k).1 ((σ 0 7) + (20000 : Int32))), (w_next_r (w_pn (w_pq_it19 σ k).1 ((σ 0 7) + (20000 : Int32))) (tkn (w_pn (w_pq_it19 σ k).1 ((σ 0 7) + (20000 : Int32)))) (rqn (w_pn (w_pq_it19 σ k).1 ((σ 0 7) + (20000 : Int32))))))))

theorem st_w_pq_it19_28 {σ : pr_I} {k : Nat} (c_28 : ((w_pq_it19 σ k).2) = ((-1) : Int32)) : ∀ j, w_pq_it19 σ (k + j) = w_pq_it19 σ k
  | 0 => rfl
  | j + 1 => by
    have ih := st_w_pq_it19_28 c_28 j
    show w_pq_it19 σ ((k + j) + 1) = w_pq_it19 σ k
    simp only [w_pq_it19, ih, if_pos c_28]
theorem st_w_pq_it19_33 {σ : pr_I} {k : Nat} (c_28 : ¬ (((w_pq_it19 σ k).2) = ((-1) : Int32))) (c_33 : ((σ 0 7) + (20000 : Int32)) < ((w_pq_it19 σ k).2)) : ∀ j, w_pq_it19 σ (k + j) = w_pq_it19 σ k
  | 0 => rfl
  | j + 1 => by
    have ih := st_w_pq_it19_33 c_28 c_33 j
    show w_pq_it19 σ ((k + j) + 1) = w_pq_it19 σ k
    simp only [w_pq_it19, ih, if_neg c_28, if_pos c_33]
noncomputable def w_pq_r (σ : pr_I) : Int32 := (if ((w_pq_it19 σ (sl 1000000)).2) = ((-1) : Int32) then (((w_pq_it19 σ (sl 1000000)).1 0 7) - (σ 0 7)) else ((-1) : Int32))
noncomputable def w_pq (σ : pr_I) : pr_I := (w_pq_it19 σ (sl 1000000)).1
theorem wI_w_pq_it19 {σ : pr_I}  (hI : wI σ) : ∀ k, wI (w_pq_it19 σ k).1
  | 0 => hI
  | k + 1 => by
    have ih := wI_w_pq_it19 (σ := σ) hI k
    simp only [w_pq_it19]
    (repeat' split) <;> first | exact ih | exact wI_w_pn ih
set_option maxRecDepth 100000 in
set_option maxHeartbeats 400000 in
theorem c_w_pq {g : pr_C} {l : Launch} (hl : l.stackTraces = false) {T : pr_T} {I : pr_I} {L : pr_L} {w : Nat} {σ : pr_I}  (hw : pr_W T w) (hI : wI σ) : pr_M g l 8 0 0 mX6_passUntilQuiet [.ref w] T (ws_put I w σ) L (pr_R (some (.int (w_pq_r σ))) T (ws_put I w (w_pq σ)) L) pr_no := by
  refine pr_ofG (by decide) rfl hl (Nat.le_of_ble_eq_true rfl) (fun X hA hX hXn hXt => ?_)
  subst hX
  show pr_G g X mX6_passUntilQuiet.2.2.1 _ 0 0 0 [.ref w, .null, .null, .null, .null] [] T (ws_put I w σ) L
  have hsl1000000 := sl_eq 1000000
  refine pr_aload_n hA dX6_passUntilQuiet_0 rfl ?_
  refine pr_getE (v := (σ 0 7)) hA f_X6_51 rfl (wk_0 hw) ws_val0 dX6_passUntilQuiet_1 ?_
  refine pr_istore_n (ls' := [_, _, _, _, _]) hA dX6_passUntilQuiet_4 (by decide) rfl ?_
  refine pr_iload_n hA dX6_passUntilQuiet_5 rfl ?_
  refine pr_sipush hA (20000) dX6_passUntilQuiet_6 (by decide) ?_
  refine pr_iadd hA dX6_passUntilQuiet_9 ?_
  refine pr_istore_n (ls' := [_, _, _, _, _]) hA dX6_passUntilQuiet_10 (by decide) rfl ?_
  refine pr_aload_n hA dX6_passUntilQuiet_11 rfl ?_
  have hv12 : wI σ := hI
  refine pr_callVi hA [] (c_w_next (w := w) (σ := σ) (n := (tkn σ)) (nr := (rqn σ)) (pr_hl hA) hw (wI_n hv12) (wI_n5 hv12) (wI_nr hv12) (wI_nr4 hv12)) v_X6_230 (wk_0 hw) (by decide) rfl rfl rfl (by decide) (Nat.zero_le _) (Nat.zero_le _) rfl (Nat.le_of_ble_eq_true rfl) dX6_passUntilQuiet_12 ?_
  refine pr_istore_n (ls' := [_, _, _, _, _]) hA dX6_passUntilQuiet_15 (by decide) rfl ?_
  refine pr_iconst hA (nI 0) dX6_passUntilQuiet_16 (by decide) ?_
  refine pr_istore (ls' := [_, _, _, _, _]) hA dX6_passUntilQuiet_17 (by decide) rfl ?_
  have lp19 : ∀ (j k : Nat), (sl 1000000) - k = j → k ≤ (sl 1000000) → pr_G g X mX6_passUntilQuiet.2.2.1 (pr_MQ g X (pr_R (some (.int (w_pq_r σ))) T (ws_put I w (w_pq σ)) L) pr_no 0 0) 0 0 19 [.ref w, .int (σ 0 7), .int ((σ 0 7) + (20000 : Int32)), .int ((w_pq_it19 σ k).2), .int (nI k)] [] T (ws_put I w (w_pq_it19 σ k).1) L := by
    intro j
    induction j using Nat.strongRecOn with | ind j ih19 =>
    intro k hj19 hk19
    refine pr_iload hA dX6_passUntilQuiet_19 rfl ?_
    refine pr_ldc hA kK_X6_89 dX6_passUntilQuiet_21 ?_
    rw [show (1000000 : Int32) = nI (sl 1000000) from by rw [sl_eq]; rfl]
    refine pr_icmp_ge hA 52 dX6_passUntilQuiet_23 (by decide) (fun c_23 => ?_) (fun c_23 => ?_)
    · have n_23 : (sl 1000000) ≤ k := (nI_leI (by omega) (by omega)).mp c_23
      have hex : (sl 1000000) = k := by omega
      subst hex
      refine pr_iload_n hA dX6_passUntilQuiet_52 rfl ?_
      refine pr_iconst hA ((-1)) dX6_passUntilQuiet_53 (by decide) ?_
      refine pr_join (c := ((w_pq_it19 σ (sl 1000000)).2) = ((-1) : Int32)) (J := 67) (st := []) (((w_pq_it19 σ (sl 1000000)).1 0 7) - (σ 0 7)) ((-1) : Int32) inferInstance (fun kt kf => ?_) ?_
      · refine pr_icmp_ne hA 66 dX6_passUntilQuiet_54 (by decide) (fun c_54 => ?_) (fun c_54 => ?_)
        · refine pr_iconst hA ((-1)) dX6_passUntilQuiet_66 (by decide) ?_
          exact kf c_54
        · refine pr_aload_n hA dX6_passUntilQuiet_57 rfl ?_
          refine pr_getE (v := ((w_pq_it19 σ (sl 1000000)).1 0 7)) hA f_X6_51 rfl (wk_0 hw) ws_val0 dX6_passUntilQuiet_58 ?_
          refine pr_iload_n hA dX6_passUntilQuiet_61 rfl ?_
          refine pr_isub hA dX6_passUntilQuiet_62 ?_
          refine pr_goto hA 67 dX6_passUntilQuiet_63 (by decide) ?_
          exact kt c_54
      · exact pr_ireturn hA rfl rfl (Nat.zero_le _) (Nat.zero_le _) dX6_passUntilQuiet_67 ⟨rfl, rfl, rfl, rfl⟩
    · have n_23 : ¬ (sl 1000000) ≤ k := fun q => c_23 ((nI_leI (by omega) (by omega)).mpr q)
      refine pr_iload_n hA dX6_passUntilQuiet_26 rfl ?_
      refine pr_iconst hA ((-1)) dX6_passUntilQuiet_27 (by decide) ?_
      refine pr_icmp_eq hA 52 dX6_passUntilQuiet_28 (by decide) (fun c_28 => ?_) (fun c_28 => ?_)
      · have hst := st_w_pq_it19_28 c_28 ((sl 1000000) - k)
        rw [show k + ((sl 1000000) - k) = (sl 1000000) from by omega] at hst
        refine pr_lessL (ls' := [.ref w, .int (σ 0 7), .int ((σ 0 7) + (20000 : Int32)), .int ((w_pq_it19 σ k).2), .null]) ⟨.inr rfl, .inr rfl, .inr rfl, .inr rfl, .inl rfl, trivial⟩ ?_
        rw [← hst]
        refine pr_iload_n hA dX6_passUntilQuiet_52 rfl ?_
        refine pr_iconst hA ((-1)) dX6_passUntilQuiet_53 (by decide) ?_
        refine pr_join (c := ((w_pq_it19 σ (sl 1000000)).2) = ((-1) : Int32)) (J := 67) (st := []) (((w_pq_it19 σ (sl 1000000)).1 0 7) - (σ 0 7)) ((-1) : Int32) inferInstance (fun kt kf => ?_) ?_
        · refine pr_icmp_ne hA 66 dX6_passUntilQuiet_54 (by decide) (fun c_54 => ?_) (fun c_54 => ?_)
          · refine pr_iconst hA ((-1)) dX6_passUntilQuiet_66 (by decide) ?_
            exact kf c_54
          · refine pr_aload_n hA dX6_passUntilQuiet_57 rfl ?_
            refine pr_getE (v := ((w_pq_it19 σ (sl 1000000)).1 0 7)) hA f_X6_51 rfl (wk_0 hw) ws_val0 dX6_passUntilQuiet_58 ?_
            refine pr_iload_n hA dX6_passUntilQuiet_61 rfl ?_
            refine pr_isub hA dX6_passUntilQuiet_62 ?_
            refine pr_goto hA 67 dX6_passUntilQuiet_63 (by decide) ?_
            exact kt c_54
        · exact pr_ireturn hA rfl rfl (Nat.zero_le _) (Nat.zero_le _) dX6_passUntilQuiet_67 ⟨rfl, rfl, rfl, rfl⟩
      · refine pr_iload_n hA dX6_passUntilQuiet_31 rfl ?_
        refine pr_iload_n hA dX6_passUntilQuiet_32 rfl ?_
        refine pr_icmp_gt hA 52 dX6_passUntilQuiet_33 (by decide) (fun c_33 => ?_) (fun c_33 => ?_)
        · have hst := st_w_pq_it19_33 c_28 c_33 ((sl 1000000) - k)
          rw [show k + ((sl 1000000) - k) = (sl 1000000) from by omega] at hst
          refine pr_lessL (ls' := [.ref w, .int (σ 0 7), .int ((σ 0 7) + (20000 : Int32)), .int ((w_pq_it19 σ k).2), .null]) ⟨.inr rfl, .inr rfl, .inr rfl, .inr rfl, .inl rfl, trivial⟩ ?_
          rw [← hst]
          refine pr_iload_n hA dX6_passUntilQuiet_52 rfl ?_
          refine pr_iconst hA ((-1)) dX6_passUntilQuiet_53 (by decide) ?_
          refine pr_join (c := ((w_pq_it19 σ (sl 1000000)).2) = ((-1) : Int32)) (J := 67) (st := []) (((w_pq_it19 σ (sl 1000000)).1 0 7) - (σ 0 7)) ((-1) : Int32) inferInstance (fun kt kf => ?_) ?_
          · refine pr_icmp_ne hA 66 dX6_passUntilQuiet_54 (by decide) (fun c_54 => ?_) (fun c_54 => ?_)
            · refine pr_iconst hA ((-1)) dX6_passUntilQuiet_66 (by decide) ?_
              exact kf c_54
            · refine pr_aload_n hA dX6_passUntilQuiet_57 rfl ?_
              refine pr_getE (v := ((w_pq_it19 σ (sl 1000000)).1 0 7)) hA f_X6_51 rfl (wk_0 hw) ws_val0 dX6_passUntilQuiet_58 ?_
              refine pr_iload_n hA dX6_passUntilQuiet_61 rfl ?_
              refine pr_isub hA dX6_passUntilQuiet_62 ?_
              refine pr_goto hA 67 dX6_passUntilQuiet_63 (by decide) ?_
              exact kt c_54
          · exact pr_ireturn hA rfl rfl (Nat.zero_le _) (Nat.zero_le _) dX6_passUntilQuiet_67 ⟨rfl, rfl, rfl, rfl⟩
        · refine pr_aload_n hA dX6_passUntilQuiet_36 rfl ?_
          refine pr_iload_n hA dX6_passUntilQuiet_37 rfl ?_
          have hv38 : wI (w_pq_it19 σ k).1 := (wI_w_pq_it19 (σ := σ) hI k)
          refine pr_callVv hA [.int ((σ 0 7) + (20000 : Int32))] (c_w_pn (w := w) (σ := (w_pq_it19 σ k).1) (lat := ((σ 0 7) + (20000 : Int32))) (pr_hl hA) hw hv38) v_X6_239 (wk_0 hw) (by decide) rfl rfl rfl (by decide) (Nat.zero_le _) (Nat.zero_le _) rfl (Nat.le_of_ble_eq_true rfl) dX6_passUntilQuiet_38 ?_
          refine pr_aload_n hA dX6_passUntilQuiet_41 rfl ?_
          have hv42 : wI (w_pn (w_pq_it19 σ k).1 ((σ 0 7) + (20000 : Int32))) := (wI_w_pn (σ := (w_pq_it19 σ k).1) (lat := ((σ 0 7) + (20000 : Int32))) (wI_w_pq_it19 (σ := σ) hI k))
          refine pr_callVi hA [] (c_w_next (w := w) (σ := (w_pn (w_pq_it19 σ k).1 ((σ 0 7) + (20000 : Int32)))) (n := (tkn (w_pn (w_pq_it19 σ k).1 ((σ 0 7) + (20000 : Int32))))) (nr := (rqn (w_pn (w_pq_it19 σ k).1 ((σ 0 7) + (20000 : Int32))))) (pr_hl hA) hw (wI_n hv42) (wI_n5 hv42) (wI_nr hv42) (wI_nr4 hv42)) v_X6_230 (wk_0 hw) (by decide) rfl rfl rfl (by decide) (Nat.zero_le _) (Nat.zero_le _) rfl (Nat.le_of_ble_eq_true rfl) dX6_passUntilQuiet_42 ?_
          refine pr_istore_n (ls' := [_, _, _, _, _]) hA dX6_passUntilQuiet_45 (by decide) rfl ?_
          refine pr_iinc (ls' := [_, _, _, _, _]) hA (nI (k + 1)) dX6_passUntilQuiet_46 (by decide) rfl (nI_inc _) rfl ?_
          refine pr_goto hA 19 dX6_passUntilQuiet_49 (by decide) ?_
          have hb := ih19 ((sl 1000000) - (k + 1)) (by omega) (k + 1) rfl (by omega)
          simp only [w_pq_it19, if_neg c_28, if_neg c_33] at hb
          exact hb
  exact (lp19 ((sl 1000000) - 0) 0 rfl (by omega))

theorem wI_w_pq {σ : pr_I}  (hI : wI σ) : wI (w_pq σ) := wI_w_pq_it19 hI _
noncomputable def w_clear (σ : pr_I) : pr_I := (pr_row (pr_up (pr_up (pr_up (pr_up (pr_up (pr_up σ 1 8 (0 : Int32)) 1 7 (0 : Int32)) 9 8 (0 : Int32)) 18 17 (0 : Int32)) 0 6 (0 : Int32)) 0 7 (0 : Int32)) 119 (cp_row (pr_sv 0) (σ 119) 5))
set_option maxRecDepth 100000 in
set_option maxHeartbeats 400000 in
theorem c_w_clear {g : pr_C} {l : Launch} (hl : l.stackTraces = false) {T : pr_T} {I : pr_I} {L : pr_L} {w : Nat} {σ : pr_I}  (hw : pr_W T w)  : pr_M g l 2 0 0 mX6_clear [.ref w] T (ws_put I w σ) L (pr_R none T (ws_put I w (w_clear σ)) L) pr_no := by
  refine pr_ofG (by decide) rfl hl (Nat.le_of_ble_eq_true rfl) (fun X hA hX hXn hXt => ?_)
  subst hX
  show pr_G g X mX6_clear.2.2.1 _ 0 0 0 [.ref w] [] T (ws_put I w σ) L
  refine pr_aload_n hA dX6_clear_0 rfl ?_
  refine pr_getR hA f_X6_12 rfl (wk_0 hw) (wf_0_0 hw) dX6_clear_1 ?_
  refine pr_iconst hA (0) dX6_clear_4 (by decide) ?_
  refine pr_putE (I' := (ws_put I w (pr_up σ 1 8 (0 : Int32)))) hA f_X6_63 rfl (wk_1 hw) (ws_up (by decide)) dX6_clear_5 ?_
  refine pr_aload_n hA dX6_clear_8 rfl ?_
  refine pr_getR hA f_X6_12 rfl (wk_0 hw) (wf_0_0 hw) dX6_clear_9 ?_
  refine pr_iconst hA (0) dX6_clear_12 (by decide) ?_
  refine pr_putE (I' := (ws_put I w (pr_up (pr_up σ 1 8 (0 : Int32)) 1 7 (0 : Int32)))) hA f_X6_66 rfl (wk_1 hw) (ws_up (by decide)) dX6_clear_13 ?_
  refine pr_aload_n hA dX6_clear_16 rfl ?_
  refine pr_getR hA f_X6_21 rfl (wk_0 hw) (wf_0_1 hw) dX6_clear_17 ?_
  refine pr_iconst hA (0) dX6_clear_20 (by decide) ?_
  refine pr_putE (I' := (ws_put I w (pr_up (pr_up (pr_up σ 1 8 (0 : Int32)) 1 7 (0 : Int32)) 9 8 (0 : Int32)))) hA f_X6_69 rfl (wk_9 hw) (ws_up (by decide)) dX6_clear_21 ?_
  refine pr_aload_n hA dX6_clear_24 rfl ?_
  refine pr_getR hA f_X6_28 rfl (wk_0 hw) (wf_0_2 hw) dX6_clear_25 ?_
  refine pr_iconst hA (0) dX6_clear_28 (by decide) ?_
  refine pr_putE (I' := (ws_put I w (pr_up (pr_up (pr_up (pr_up σ 1 8 (0 : Int32)) 1 7 (0 : Int32)) 9 8 (0 : Int32)) 18 17 (0 : Int32)))) hA f_X6_70 rfl (wk_18 hw) (ws_up (by decide)) dX6_clear_29 ?_
  refine pr_aload_n hA dX6_clear_32 rfl ?_
  refine pr_iconst hA (0) dX6_clear_33 (by decide) ?_
  refine pr_putE (I' := (ws_put I w (pr_up (pr_up (pr_up (pr_up (pr_up σ 1 8 (0 : Int32)) 1 7 (0 : Int32)) 9 8 (0 : Int32)) 18 17 (0 : Int32)) 0 6 (0 : Int32)))) hA f_X6_47 rfl (wk_0 hw) ws_up0 dX6_clear_34 ?_
  refine pr_aload_n hA dX6_clear_37 rfl ?_
  refine pr_iconst hA (0) dX6_clear_38 (by decide) ?_
  refine pr_putE (I' := (ws_put I w (pr_up (pr_up (pr_up (pr_up (pr_up (pr_up σ 1 8 (0 : Int32)) 1 7 (0 : Int32)) 9 8 (0 : Int32)) 18 17 (0 : Int32)) 0 6 (0 : Int32)) 0 7 (0 : Int32)))) hA f_X6_51 rfl (wk_0 hw) ws_up0 dX6_clear_39 ?_
  refine pr_getsN hA 0 (by decide) (by decide +kernel) dX6_clear_42 ?_
  refine pr_iconst hA (nI 0) dX6_clear_45 (by decide) ?_
  refine pr_aload_n hA dX6_clear_46 rfl ?_
  refine pr_getR hA f_X6_39 rfl (wk_0 hw) (wf_0_4 hw) dX6_clear_47 ?_
  refine pr_iconst hA (nI 0) dX6_clear_50 (by decide) ?_
  refine pr_iconst hA (nI 5) dX6_clear_51 (by decide) ?_
  refine pr_cpySE (I' := (ws_put I w (pr_row (pr_up (pr_up (pr_up (pr_up (pr_up (pr_up σ 1 8 (0 : Int32)) 1 7 (0 : Int32)) 9 8 (0 : Int32)) 18 17 (0 : Int32)) 0 6 (0 : Int32)) 0 7 (0 : Int32)) 119 (cp_row (pr_sv 0) (σ 119) 5)))) hA (by decide) ⟨kM_X6_57, kN_System_arraycopy__Ljava_lang_Object_ILjava_lang_Object_II_V, kT_System_arraycopy__Ljava_lang_Object_ILjava_lang_Object_II_V, kZ_J10⟩ (by decide) (wk_119 hw) (by omega) (by omega) ((ws_row (by decide)).trans ((pr_up_ne (by decide)).trans ((pr_up_ne (by decide)).trans ((pr_up_ne (by decide)).trans ((pr_up_ne (by decide)).trans ((pr_up_ne (by decide)).trans (pr_up_ne (by decide)))))))) (ws_put_row (by decide)) (Nat.le_of_ble_eq_true rfl) dX6_clear_52 ?_
  exact pr_return hA rfl (Nat.zero_le _) (Nat.zero_le _) dX6_clear_55 ⟨rfl, rfl, rfl, rfl⟩

theorem fr_w_clear {σ : pr_I}  {o : Nat} (hms : ∀ m ∈ ([0, 1, 9, 18, 119] : List Nat), o ≠ m) : w_clear σ o = σ o := by
  unfold w_clear
  simp only [List.mem_cons, List.not_mem_nil, or_false, forall_eq_or_imp, forall_eq] at hms
  rw [pr_row_ne (by omega), pr_up_ne (by omega), pr_up_ne (by omega), pr_up_ne (by omega), pr_up_ne (by omega), pr_up_ne (by omega), pr_up_ne (by omega)]

noncomputable def w_rev_r (σ : pr_I) : Int64 := ((rq_tot_paid_r σ (rqn σ)) - (rq_tot_ref_r σ (rqn σ)))
set_option maxRecDepth 100000 in
set_option maxHeartbeats 400000 in
theorem c_w_rev {g : pr_C} {l : Launch} (hl : l.stackTraces = false) {T : pr_T} {I : pr_I} {L : pr_L} {w : Nat} {σ : pr_I}  (hw : pr_W T w) (hI : wI σ) : pr_M g l 2 0 0 mX6_revenueNow [.ref w] T (ws_put I w σ) L (pr_R (some (.long (w_rev_r σ))) T (ws_put I w σ) L) pr_no := by
  refine pr_ofG (by decide) rfl hl (Nat.le_of_ble_eq_true rfl) (fun X hA hX hXn hXt => ?_)
  subst hX
  show pr_G g X mX6_revenueNow.2.2.1 _ 0 0 0 [.ref w] [] T (ws_put I w σ) L
  refine pr_aload_n hA dX6_revenueNow_0 rfl ?_
  refine pr_getR hA f_X6_28 rfl (wk_0 hw) (wf_0_2 hw) dX6_revenueNow_1 ?_
  refine pr_aload_n hA dX6_revenueNow_4 rfl ?_
  refine pr_getR hA f_X6_28 rfl (wk_0 hw) (wf_0_2 hw) dX6_revenueNow_5 ?_
  refine pr_getR hA f_X6_185 rfl (wk_18 hw) (wf_18_7 hw) dX6_revenueNow_8 ?_
  have hv11 : wI σ := hI
  refine pr_callVl hA [.ref (w + 26)] (c_rq_tot_paid (w := w) (σ := σ) (nr := (rqn σ)) (pr_hl hA) hw (wI_nr hv11) (wI_nr4 hv11)) v_X6_218 (wk_18 hw) (by decide) rfl rfl rfl (by decide) (Nat.zero_le _) (Nat.zero_le _) rfl (Nat.le_of_ble_eq_true rfl) dX6_revenueNow_11 ?_
  refine pr_aload_n hA dX6_revenueNow_14 rfl ?_
  refine pr_getR hA f_X6_28 rfl (wk_0 hw) (wf_0_2 hw) dX6_revenueNow_15 ?_
  refine pr_aload_n hA dX6_revenueNow_18 rfl ?_
  refine pr_getR hA f_X6_28 rfl (wk_0 hw) (wf_0_2 hw) dX6_revenueNow_19 ?_
  refine pr_getR hA f_X6_217 rfl (wk_18 hw) (wf_18_8 hw) dX6_revenueNow_22 ?_
  have hv25 : wI σ := hI
  refine pr_callVl hA [.ref (w + 27)] (c_rq_tot_ref (w := w) (σ := σ) (nr := (rqn σ)) (pr_hl hA) hw (wI_nr hv25) (wI_nr4 hv25)) v_X6_218 (wk_18 hw) (by decide) rfl rfl rfl (by decide) (Nat.zero_le _) (Nat.zero_le _) rfl (Nat.le_of_ble_eq_true rfl) dX6_revenueNow_25 ?_
  refine pr_lsub hA dX6_revenueNow_28 ?_
  exact pr_lreturn hA rfl (Nat.zero_le _) (Nat.zero_le _) dX6_revenueNow_29 ⟨rfl, rfl, rfl, rfl⟩

noncomputable def w_nw_rl2 (σ : pr_I) (ν : Nat → Int64) (nn : Nat) (q : Int64) : Nat → Nat → Int32
  | 0, _ => 0
  | j + 1, k => (if (nI nn) ≤ (nI k) then ((-1) : Int32) else (if (lg_cmp (ν k) q) = 0 then (nI k) else (w_nw_rl2 σ ν nn q j (k + 1))))
noncomputable def w_nw_r (σ : pr_I) (ν : Nat → Int64) (nn : Nat) (q : Int64) : Int32 := (w_nw_rl2 σ ν nn q (nn + 1) 0)
set_option maxRecDepth 100000 in
set_option maxHeartbeats 400000 in
theorem c_w_nw {g : pr_C} {l : Launch} (hl : l.stackTraces = false) {T : pr_T} {I : pr_I} {L : pr_L} {w : Nat} {σ : pr_I} {ν : Nat → Int64} {nn : Nat} {q : Int64} (hw : pr_W T w) (hν : L (w + 120) = ν) (hnn : σ 0 6 = nI nn) (hnn12 : nn ≤ 12) : pr_M g l 1 0 0 mX6_nodeWithName [.ref w, .long q] T (ws_put I w σ) L (pr_R (some (.int (w_nw_r σ ν nn q))) T (ws_put I w σ) L) pr_no := by
  refine pr_ofG (by decide) rfl hl (Nat.le_of_ble_eq_true rfl) (fun X hA hX hXn hXt => ?_)
  subst hX
  show pr_G g X mX6_nodeWithName.2.2.1 _ 0 0 0 [.ref w, .long q, .null, .null] [] T (ws_put I w σ) L
  refine pr_iconst hA (nI 0) dX6_nodeWithName_0 (by decide) ?_
  refine pr_istore_n (ls' := [_, _, _, _]) hA dX6_nodeWithName_1 (by decide) rfl ?_
  obtain ⟨R, hR0⟩ : ∃ R, w_nw_rl2 σ ν nn q (nn + 1) 0 = R := ⟨_, rfl⟩
  have hf : w_nw_r σ ν nn q = R := by simp only [w_nw_r, hR0]
  have lp2 : ∀ (j k : Nat), nn + 1 - k = j → k ≤ nn → w_nw_rl2 σ ν nn q j k = R → pr_G g X mX6_nodeWithName.2.2.1 (pr_MQ g X (pr_R (some (.int (w_nw_r σ ν nn q))) T (ws_put I w σ) L) pr_no 0 0) 0 0 2 [.ref w, .long q, .null, .int (nI k)] [] T (ws_put I w σ) L := by
    intro j
    induction j with
    | zero => intro k  hj hk hR; omega
    | succ j ih =>
      intro k  hj hk hR
      refine pr_iload_n hA dX6_nodeWithName_2 rfl ?_
      refine pr_aload_n hA dX6_nodeWithName_3 rfl ?_
      refine pr_getE (v := (nI nn)) hA f_X6_47 rfl (wk_0 hw) (ws_val0.trans hnn) dX6_nodeWithName_4 ?_
      refine pr_icmp_ge hA 29 dX6_nodeWithName_7 (by decide) (fun c_7 => ?_) (fun c_7 => ?_)
      · have n_7 : nn ≤ k := (nI_leI (by omega) (by omega)).mp c_7
        refine pr_iconst hA ((-1)) dX6_nodeWithName_29 (by decide) ?_
        simp only [w_nw_rl2, if_pos c_7] at hR
        exact pr_ireturn hA rfl rfl (Nat.zero_le _) (Nat.zero_le _) dX6_nodeWithName_30 ⟨(by rw [hf, ← hR]), rfl, rfl, rfl⟩
      · have n_7 : ¬ nn ≤ k := fun q => c_7 ((nI_leI (by omega) (by omega)).mpr q)
        refine pr_aload_n hA dX6_nodeWithName_10 rfl ?_
        refine pr_getR hA f_X6_43 rfl (wk_0 hw) (wf_0_5 hw) dX6_nodeWithName_11 ?_
        refine pr_iload_n hA dX6_nodeWithName_14 rfl ?_
        refine pr_laldE (v := (ν k)) hA (wk_120 hw) (by omega) (by decide) (congrFun hν _) dX6_nodeWithName_15 ?_
        refine pr_lload_n hA dX6_nodeWithName_16 rfl ?_
        refine pr_lcmp hA dX6_nodeWithName_17 ?_
        refine pr_if_ne hA 23 dX6_nodeWithName_18 (by decide) (fun c_18 => ?_) (fun c_18 => ?_)
        · refine pr_iinc (ls' := [_, _, _, _]) hA (nI (k + 1)) dX6_nodeWithName_23 (by decide) rfl (nI_inc _) rfl ?_
          refine pr_goto hA 2 dX6_nodeWithName_26 (by decide) ?_
          simp only [w_nw_rl2, if_neg c_7, if_neg c_18] at hR
          exact (ih (k + 1) (by omega) (by omega) hR)
        · refine pr_iload_n hA dX6_nodeWithName_21 rfl ?_
          simp only [w_nw_rl2, if_neg c_7, if_pos c_18] at hR
          exact pr_ireturn hA rfl rfl (Nat.zero_le _) (Nat.zero_le _) dX6_nodeWithName_22 ⟨(by rw [hf, ← hR]), rfl, rfl, rfl⟩
  exact (lp2 (nn + 1) 0 rfl (Nat.zero_le _) hR0)

noncomputable def w_an (σ : pr_I) (nn : Nat) (q : Int64) : pr_I := (if (nI 12) ≤ (nI nn) then σ else (pr_up σ 0 6 (nI (nn + 1))))
set_option maxRecDepth 100000 in
set_option maxHeartbeats 400000 in
theorem c_w_an {g : pr_C} {l : Launch} (hl : l.stackTraces = false) {T : pr_T} {I : pr_I} {L : pr_L} {w : Nat} {σ : pr_I} {nn : Nat} {q : Int64} (hw : pr_W T w) (hnn : σ 0 6 = nI nn) (hnn12 : nn ≤ 12) : pr_M g l 1 0 0 mX6_addNode [.ref w, .long q] T (ws_put I w σ) L (pr_R none T (ws_put I w (w_an σ nn q)) (if nI 12 ≤ nI nn then L else pr_upl L (w + 120) nn q)) pr_no := by
  refine pr_ofG (by decide) rfl hl (Nat.le_of_ble_eq_true rfl) (fun X hA hX hXn hXt => ?_)
  subst hX
  show pr_G g X mX6_addNode.2.2.1 _ 0 0 0 [.ref w, .long q, .null] [] T (ws_put I w σ) L
  refine pr_aload_n hA dX6_addNode_0 rfl ?_
  refine pr_getE (v := (nI nn)) hA f_X6_47 rfl (wk_0 hw) (ws_val0.trans hnn) dX6_addNode_1 ?_
  refine pr_bipush hA (nI 12) dX6_addNode_4 (by decide) ?_
  refine pr_icmp_ge hA 29 dX6_addNode_6 (by decide) (fun c_6 => ?_) (fun c_6 => ?_)
  · have n_6 : 12 ≤ nn := (nI_leI (by omega) (by omega)).mp c_6
    exact pr_return hA rfl (Nat.zero_le _) (Nat.zero_le _) dX6_addNode_29 ⟨rfl, rfl, (by simp only [w_an, if_pos c_6]), (by rw [if_pos c_6])⟩
  · have n_6 : ¬ 12 ≤ nn := fun q => c_6 ((nI_leI (by omega) (by omega)).mpr q)
    refine pr_aload_n hA dX6_addNode_9 rfl ?_
    refine pr_getR hA f_X6_43 rfl (wk_0 hw) (wf_0_5 hw) dX6_addNode_10 ?_
    refine pr_aload_n hA dX6_addNode_13 rfl ?_
    refine pr_getE (v := (nI nn)) hA f_X6_47 rfl (wk_0 hw) (ws_val0.trans hnn) dX6_addNode_14 ?_
    refine pr_lload_n hA dX6_addNode_17 rfl ?_
    refine pr_lastE hA (wk_120 hw) (by omega) (by decide) dX6_addNode_18 ?_
    refine pr_aload_n hA dX6_addNode_19 rfl ?_
    refine pr_dup hA dX6_addNode_20 rfl ?_
    refine pr_getE (v := (nI nn)) hA f_X6_47 rfl (wk_0 hw) (ws_val0.trans hnn) dX6_addNode_21 ?_
    refine pr_iconst hA (1) dX6_addNode_24 (by decide) ?_
    refine pr_iaddE (v := nI (nn + 1)) hA (nI_1 _) dX6_addNode_25 ?_
    refine pr_putE (I' := (ws_put I w (pr_up σ 0 6 (nI (nn + 1))))) hA f_X6_47 rfl (wk_0 hw) ws_up0 dX6_addNode_26 ?_
    exact pr_return hA rfl (Nat.zero_le _) (Nat.zero_le _) dX6_addNode_29 ⟨rfl, rfl, (by simp only [w_an, if_neg c_6]), (by rw [if_neg c_6])⟩

theorem fr_w_an {σ : pr_I} {nn : Nat} {q : Int64} {o : Nat} (hms : ∀ m ∈ ([0] : List Nat), o ≠ m) : w_an σ nn q o = σ o := by
  unfold w_an
  simp only [List.mem_cons, List.not_mem_nil, or_false, forall_eq_or_imp, forall_eq] at hms
  by_cases c_6 : (nI 12) ≤ (nI nn)
  · refine (congrFun (if_pos c_6) o).trans ?_
    rfl
  · refine (congrFun (if_neg c_6) o).trans ?_
    rw [pr_up_ne (by omega)]

noncomputable def w_cp (σ : pr_I) (τ : pr_I) (nl : Nat) (n : Nat) (nr : Nat) : pr_I := (pr_up (pr_up (pr_row (rq_cp (tk_cp (lk_cp σ τ nl) τ n) τ nr) 119 (cp_row (τ 119) (σ 119) 5)) 0 6 (τ 0 6)) 0 7 (τ 0 7))
set_option maxRecDepth 100000 in
set_option maxHeartbeats 400000 in
theorem c_w_cp {g : pr_C} {l : Launch} (hl : l.stackTraces = false) {T : pr_T} {I : pr_I} {L : pr_L} {w : Nat} {σ : pr_I} {τ : pr_I} {nl : Nat} {n : Nat} {nr : Nat} (hw : pr_W T w) {v : Nat} (hv : pr_W T v) (hdis : v + 121 ≤ w ∨ w + 121 ≤ v) (hnl : τ 1 8 = nI nl) (hnl24 : nl ≤ 24) (hn : τ 9 8 = nI n) (hn5 : n ≤ 500) (hnr : τ 18 17 = nI nr) (hnr4 : nr ≤ 40) : pr_M g l 3 0 0 mX6_copyFrom [.ref w, .ref v] T (ws_put (ws_put I v τ) w σ) L (pr_R none T (ws_put (ws_put I v τ) w (w_cp σ τ nl n nr)) (pr_rowl L (w + 120) (cp_row (L (v + 120)) (L (w + 120)) 12))) pr_no := by
  refine pr_ofG (by decide) rfl hl (Nat.le_of_ble_eq_true rfl) (fun X hA hX hXn hXt => ?_)
  subst hX
  show pr_G g X mX6_copyFrom.2.2.1 _ 0 0 0 [.ref w, .ref v] [] T (ws_put (ws_put I v τ) w σ) L
  refine pr_aload_n hA dX6_copyFrom_0 rfl ?_
  refine pr_getR hA f_X6_12 rfl (wk_0 hw) (wf_0_0 hw) dX6_copyFrom_1 ?_
  refine pr_aload_n hA dX6_copyFrom_4 rfl ?_
  refine pr_getR hA f_X6_12 rfl (wk_0 hv) (wf_0_0 hv) dX6_copyFrom_5 ?_
  refine pr_callVv hA [.ref (v + 1)] (c_lk_cp (pr_hl hA) hw hv hdis hnl (by omega)) v_X6_71 (wk_1 hw) (by decide) rfl rfl rfl (by decide) (Nat.zero_le _) (Nat.zero_le _) rfl (Nat.le_of_ble_eq_true rfl) dX6_copyFrom_8 ?_
  refine pr_aload_n hA dX6_copyFrom_11 rfl ?_
  refine pr_getR hA f_X6_21 rfl (wk_0 hw) (wf_0_1 hw) dX6_copyFrom_12 ?_
  refine pr_aload_n hA dX6_copyFrom_15 rfl ?_
  refine pr_getR hA f_X6_21 rfl (wk_0 hv) (wf_0_1 hv) dX6_copyFrom_16 ?_
  refine pr_callVv hA [.ref (v + 9)] (c_tk_cp (pr_hl hA) hw hv hdis hn (by omega)) v_X6_75 (wk_9 hw) (by decide) rfl rfl rfl (by decide) (Nat.zero_le _) (Nat.zero_le _) rfl (Nat.le_of_ble_eq_true rfl) dX6_copyFrom_19 ?_
  refine pr_aload_n hA dX6_copyFrom_22 rfl ?_
  refine pr_getR hA f_X6_28 rfl (wk_0 hw) (wf_0_2 hw) dX6_copyFrom_23 ?_
  refine pr_aload_n hA dX6_copyFrom_26 rfl ?_
  refine pr_getR hA f_X6_28 rfl (wk_0 hv) (wf_0_2 hv) dX6_copyFrom_27 ?_
  refine pr_callVv hA [.ref (v + 18)] (c_rq_cp (pr_hl hA) hw hv hdis hnr (by omega)) v_X6_78 (wk_18 hw) (by decide) rfl rfl rfl (by decide) (Nat.zero_le _) (Nat.zero_le _) rfl (Nat.le_of_ble_eq_true rfl) dX6_copyFrom_30 ?_
  refine pr_aload_n hA dX6_copyFrom_33 rfl ?_
  refine pr_getR hA f_X6_39 rfl (wk_0 hv) (wf_0_4 hv) dX6_copyFrom_34 ?_
  refine pr_iconst hA (nI 0) dX6_copyFrom_37 (by decide) ?_
  refine pr_aload_n hA dX6_copyFrom_38 rfl ?_
  refine pr_getR hA f_X6_39 rfl (wk_0 hw) (wf_0_4 hw) dX6_copyFrom_39 ?_
  refine pr_iconst hA (nI 0) dX6_copyFrom_42 (by decide) ?_
  refine pr_iconst hA (nI 5) dX6_copyFrom_43 (by decide) ?_
  refine pr_cpyE (I' := (ws_put (ws_put I v τ) w (pr_row (rq_cp (tk_cp (lk_cp σ τ nl) τ n) τ nr) 119 (cp_row (τ 119) (σ 119) 5)))) hA ⟨kM_X6_57, kN_System_arraycopy__Ljava_lang_Object_ILjava_lang_Object_II_V, kT_System_arraycopy__Ljava_lang_Object_ILjava_lang_Object_II_V, kZ_J10⟩ (by decide) (wk_119 hv) (wk_119 hw) (by omega) (by omega) (by omega) ((ws_out (by omega)).trans (ws_row (by decide))) ((ws_row (by decide)).trans ((fr_rq_cp (by decide) (by decide) (by omega)).trans ((fr_tk_cp (by decide)).trans (fr_lk_cp (by decide))))) (ws_put_row (by decide)) (Nat.le_of_ble_eq_true rfl) dX6_copyFrom_44 ?_
  refine pr_aload_n hA dX6_copyFrom_47 rfl ?_
  refine pr_getR hA f_X6_43 rfl (wk_0 hv) (wf_0_5 hv) dX6_copyFrom_48 ?_
  refine pr_iconst hA (nI 0) dX6_copyFrom_51 (by decide) ?_
  refine pr_aload_n hA dX6_copyFrom_52 rfl ?_
  refine pr_getR hA f_X6_43 rfl (wk_0 hw) (wf_0_5 hw) dX6_copyFrom_53 ?_
  refine pr_iconst hA (nI 0) dX6_copyFrom_56 (by decide) ?_
  refine pr_bipush hA (nI 12) dX6_copyFrom_57 (by decide) ?_
  refine pr_cpyLE hA ⟨kM_X6_57, kN_System_arraycopy__Ljava_lang_Object_ILjava_lang_Object_II_V, kT_System_arraycopy__Ljava_lang_Object_ILjava_lang_Object_II_V, kZ_J10⟩ (by decide) (wk_120 hv) (wk_120 hw) (by omega) (by omega) (by omega) (Nat.le_of_ble_eq_true rfl) dX6_copyFrom_59 ?_
  refine pr_aload_n hA dX6_copyFrom_62 rfl ?_
  refine pr_aload_n hA dX6_copyFrom_63 rfl ?_
  refine pr_getE (v := (τ 0 6)) hA f_X6_47 rfl (wk_0 hv) ((ws_outv (by omega)).trans ws_val0) dX6_copyFrom_64 ?_
  refine pr_putE (I' := (ws_put (ws_put I v τ) w (pr_up (pr_row (rq_cp (tk_cp (lk_cp σ τ nl) τ n) τ nr) 119 (cp_row (τ 119) (σ 119) 5)) 0 6 (τ 0 6)))) hA f_X6_47 rfl (wk_0 hw) ws_up0 dX6_copyFrom_67 ?_
  refine pr_aload_n hA dX6_copyFrom_70 rfl ?_
  refine pr_aload_n hA dX6_copyFrom_71 rfl ?_
  refine pr_getE (v := (τ 0 7)) hA f_X6_51 rfl (wk_0 hv) ((ws_outv (by omega)).trans ws_val0) dX6_copyFrom_72 ?_
  refine pr_putE (I' := (ws_put (ws_put I v τ) w (pr_up (pr_up (pr_row (rq_cp (tk_cp (lk_cp σ τ nl) τ n) τ nr) 119 (cp_row (τ 119) (σ 119) 5)) 0 6 (τ 0 6)) 0 7 (τ 0 7)))) hA f_X6_51 rfl (wk_0 hw) ws_up0 dX6_copyFrom_75 ?_
  exact pr_return hA rfl (Nat.zero_le _) (Nat.zero_le _) dX6_copyFrom_78 ⟨rfl, rfl, rfl, rfl⟩

theorem fr_w_cp {σ : pr_I} {τ : pr_I} {nl : Nat} {n : Nat} {nr : Nat} {o : Nat} (hms : ∀ m ∈ ([0, 1, 2, 3, 4, 5, 6, 7, 8, 9, 10, 11, 12, 13, 14, 15, 16, 17, 18, 19, 20, 21, 22, 23, 24, 25, 26, 27, 28, 29, 30, 31, 32, 33, 119] : List Nat), o ≠ m) (hp : o < 35 ∨ 115 < o) (hnr40 : nr ≤ 40) : w_cp σ τ nl n nr o = σ o := by
  unfold w_cp
  simp only [List.mem_cons, List.not_mem_nil, or_false, forall_eq_or_imp, forall_eq] at hms
  rw [pr_up_ne (by omega), pr_up_ne (by omega), pr_row_ne (by omega), fr_rq_cp (by simp only [List.mem_cons, List.not_mem_nil, or_false, forall_eq_or_imp, forall_eq]; omega) (by omega) (by omega), fr_tk_cp (by simp only [List.mem_cons, List.not_mem_nil, or_false, forall_eq_or_imp, forall_eq]; omega), fr_lk_cp (by simp only [List.mem_cons, List.not_mem_nil, or_false, forall_eq_or_imp, forall_eq]; omega)]

