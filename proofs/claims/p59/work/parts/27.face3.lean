theorem find_ml {σ : pr_I} {nl : Nat} {s t u : Int32} : ∀ (j k : Nat) (σ1 : pr_I) (x : Int32), (pt_find_rl32 σ nl s t u j k σ1 x).2 = 0 ∨ (pt_find_rl32 σ nl s t u j k σ1 x).1 116 1 = (pt_find_rl32 σ nl s t u j k σ1 x).2
  | 0, k, σ1, x => Or.inl rfl
  | j + 1, k, σ1, x => by
    simp only [pt_find_rl32]
    by_cases c : nI 11 ≤ nI k
    · rw [if_pos c]; exact Or.inr rfl
    · rw [if_neg c]
      by_cases c2 : x = t
      · rw [if_pos c2]; exact Or.inr rfl
      · rw [if_neg c2]
        by_cases c3 : pt_first_r σ1 nl x u = -1
        · rw [if_pos c3]; exact Or.inl rfl
        · rw [if_neg c3]; exact find_ml j (k + 1) _ _
theorem find_mlr {σ : pr_I} {nl : Nat} {s t u : Int32} (h : pt_find_r σ nl s t u ≠ 0) : pt_find σ nl s t u 116 1 = pt_find_r σ nl s t u := by
  unfold pt_find_r at *
  unfold pt_find
  by_cases c : pt_meas (pr_up σ 116 1 (0 : Int32)) nl t u 118 s.toNatClampNeg = (1000000000 : Int32)
  · rw [if_pos c] at h; exact absurd rfl h
  · rw [if_neg c] at h
    rw [if_neg c, if_neg c]
    exact (find_ml _ _ _ _).resolve_left h
def ptm (σ : pr_I) : Nat := (σ 116 1).toNatClampNeg
theorem wI_ml {σ : pr_I} (h : wI σ) : σ 116 1 = nI (ptm σ) := vp_nI (h 116 1 12 rfl) (by decide)
theorem wI_ml11 {σ : pr_I} (h : wI σ) : ptm σ ≤ 11 := Nat.le_of_lt_succ (vp_in_lt (h 116 1 12 rfl))
theorem nI_inj0 {a : Nat} (h : nI a ≠ 0) : a ≠ 0 := fun e => h (by rw [e]; rfl)
set_option maxRecDepth 100000 in
set_option maxHeartbeats 400000 in
theorem c_fx_rp {g : pr_C} {l : Launch} (hl : l.stackTraces = false) {T : pr_T} {I : pr_I} {L : pr_L} {w : Nat} {σ : pr_I} {s : Nat} {t : Nat} (hw : pr_W T w) {x v sn f y : Nat} (hx : pr_X7 T x w v sn f y) (hI : wI σ) (hs : s < ndn σ) (ht : t < ndn σ) (hst : s ≠ t) : pr_M g l 9 0 0 mX7_requirePair [.ref x, .int (nI s), .int (nI t)] T (ws_put I w σ) L (pr_R none T (ws_put I w σ) L) pr_no := by
  refine pr_ofG (by decide) rfl hl (Nat.le_of_ble_eq_true rfl) (fun X hA hX hXn hXt => ?_)
  subst hX
  show pr_G g X mX7_requirePair.2.2.1 _ 0 0 0 [.ref x, .int (nI s), .int (nI t)] [] T (ws_put I w σ) L
  have hl24 := wI_nl24 hI
  have hn5 := wI_n5 hI
  have hr4 := wI_nr4 hI
  have hn12 := wI_nn12 hI
  refine pr_iload_n hA dX7_requirePair_0 rfl ?_
  refine pr_aload_n hA dX7_requirePair_1 rfl ?_
  refine pr_getR hA f_X7_10 rfl (tx_k hx) (tx_0 hx) dX7_requirePair_2 ?_
  refine pr_getE (v := (nI (ndn σ))) hA f_X7_71 rfl (wk_0 hw) (ws_val0.trans (wI_nn hI)) dX7_requirePair_5 ?_
  refine pr_callSv hA [.int (nI s), .int (nI (ndn σ))] (c_ri_ok (pr_hl hA) (by omega) (by omega)) s_X7_74 rfl (by decide) (Nat.zero_le _) (Nat.zero_le _) rfl (Nat.le_of_ble_eq_true rfl) dX7_requirePair_8 ?_
  refine pr_iload_n hA dX7_requirePair_11 rfl ?_
  refine pr_aload_n hA dX7_requirePair_12 rfl ?_
  refine pr_getR hA f_X7_10 rfl (tx_k hx) (tx_0 hx) dX7_requirePair_13 ?_
  refine pr_getE (v := (nI (ndn σ))) hA f_X7_71 rfl (wk_0 hw) (ws_val0.trans (wI_nn hI)) dX7_requirePair_16 ?_
  refine pr_callSv hA [.int (nI t), .int (nI (ndn σ))] (c_ri_ok (pr_hl hA) (by omega) (by omega)) s_X7_74 rfl (by decide) (Nat.zero_le _) (Nat.zero_le _) rfl (Nat.le_of_ble_eq_true rfl) dX7_requirePair_19 ?_
  refine pr_iload_n hA dX7_requirePair_22 rfl ?_
  refine pr_iload_n hA dX7_requirePair_23 rfl ?_
  refine pr_icmp_ne hA 38 dX7_requirePair_24 (by decide) (fun c_24 => ?_) (fun c_24 => ?_)
  · have n_24 : ¬ s = t := fun q => c_24 ((nI_eq (by omega) (by omega)).mpr q)
    exact pr_return hA rfl (Nat.zero_le _) (Nat.zero_le _) dX7_requirePair_38 ⟨rfl, rfl, rfl, rfl⟩
  · exact absurd ((nI_eq (by omega) (by omega)).mp (by first | exact c_24 | exact Decidable.not_not.mp c_24)) hst

noncomputable def fx_fp_r (σ : pr_I) (s : Nat) (t : Nat) (u : Int32) : Int32 := (pt_find_r σ (lkn σ) (nI s) (nI t) (lk_wu σ u (lkn σ) &&& σ 1 7))
noncomputable def fx_fp (σ : pr_I) (s : Nat) (t : Nat) (u : Int32) : pr_I := (pt_find σ (lkn σ) (nI s) (nI t) (lk_wu σ u (lkn σ) &&& σ 1 7))
set_option maxRecDepth 100000 in
set_option maxHeartbeats 400000 in
theorem c_fx_fp {g : pr_C} {l : Launch} (hl : l.stackTraces = false) {T : pr_T} {I : pr_I} {L : pr_L} {w : Nat} {σ : pr_I} {s : Nat} {t : Nat} {u : Int32} (hw : pr_W T w) {x v sn f y : Nat} (hx : pr_X7 T x w v sn f y) (hI : wI σ) (hs : s < ndn σ) (ht : t < ndn σ) (hst : s ≠ t) (hu1 : 0 ≤ u) (hu2 : u ≤ 1000) : pr_M g l 10 0 0 mX7_findPath [.ref x, .int (nI s), .int (nI t), .int u] T (ws_put I w σ) L (pr_R (some (.int (fx_fp_r σ s t u))) T (ws_put I w (fx_fp σ s t u)) L) pr_no := by
  refine pr_ofG (by decide) rfl hl (Nat.le_of_ble_eq_true rfl) (fun X hA hX hXn hXt => ?_)
  subst hX
  show pr_G g X mX7_findPath.2.2.1 _ 0 0 0 [.ref x, .int (nI s), .int (nI t), .int u] [] T (ws_put I w σ) L
  have hl24 := wI_nl24 hI
  have hn5 := wI_n5 hI
  have hr4 := wI_nr4 hI
  have hn12 := wI_nn12 hI
  refine pr_aload_n hA dX7_findPath_0 rfl ?_
  refine pr_iload_n hA dX7_findPath_1 rfl ?_
  refine pr_iload_n hA dX7_findPath_2 rfl ?_
  refine pr_callVv hA [.int (nI s), .int (nI t)] (c_fx_rp (w := w) (σ := σ) (pr_hl hA) hw hx hI (by omega) (by omega) (by omega)) v_X7_124 (tx_k hx) (by decide) rfl rfl rfl (by decide) (Nat.zero_le _) (Nat.zero_le _) rfl (Nat.le_of_ble_eq_true rfl) dX7_findPath_3 ?_
  refine pr_iload_n hA dX7_findPath_6 rfl ?_
  refine pr_iconst hA (0) dX7_findPath_7 (by decide) ?_
  refine pr_sipush hA (1000) dX7_findPath_8 (by decide) ?_
  refine pr_callSv hA [.int u, .int (0 : Int32), .int (1000 : Int32)] (c_rr_ok (pr_hl hA) hu1 hu2) s_X7_86 rfl (by decide) (Nat.zero_le _) (Nat.zero_le _) rfl (Nat.le_of_ble_eq_true rfl) dX7_findPath_11 ?_
  refine pr_aload_n hA dX7_findPath_14 rfl ?_
  refine pr_getR hA f_X7_10 rfl (tx_k hx) (tx_0 hx) dX7_findPath_15 ?_
  refine pr_getR hA f_X7_206 rfl (wk_0 hw) (wf_0_3 hw) dX7_findPath_18 ?_
  refine pr_aload_n hA dX7_findPath_21 rfl ?_
  refine pr_getR hA f_X7_10 rfl (tx_k hx) (tx_0 hx) dX7_findPath_22 ?_
  refine pr_getR hA f_X7_55 rfl (wk_0 hw) (wf_0_0 hw) dX7_findPath_25 ?_
  refine pr_iload_n hA dX7_findPath_28 rfl ?_
  refine pr_iload_n hA dX7_findPath_29 rfl ?_
  refine pr_aload_n hA dX7_findPath_30 rfl ?_
  refine pr_getR hA f_X7_10 rfl (tx_k hx) (tx_0 hx) dX7_findPath_31 ?_
  refine pr_getR hA f_X7_55 rfl (wk_0 hw) (wf_0_0 hw) dX7_findPath_34 ?_
  refine pr_iload_n hA dX7_findPath_37 rfl ?_
  refine pr_callVi hA [.int u] (c_withUnits (pr_hl hA) hw (wI_nl hI) (by omega)) v_X7_250 (wk_1 hw) (by decide) rfl rfl rfl (by decide) (Nat.zero_le _) (Nat.zero_le _) rfl (Nat.le_of_ble_eq_true rfl) dX7_findPath_38 ?_
  have hv41 : wI σ := hI
  refine pr_callVi hA [.ref (w + 1), .int (nI s), .int (nI t), .int (lk_wu σ u (lkn σ) &&& σ 1 7)] (c_pt_find (w := w) (σ := σ) (nl := (lkn σ)) (s := (nI s)) (t := (nI t)) (u := (lk_wu σ u (lkn σ) &&& σ 1 7)) (pr_hl hA) hw (wI_nl hv41) (wI_nl24 hv41) (wI_L hv41) (by first | assumption | exact nI_vin (by omega) (by decide) | omega)) v_X7_285 (wk_116 hw) (by decide) rfl rfl rfl (by decide) (Nat.zero_le _) (Nat.zero_le _) rfl (Nat.le_of_ble_eq_true rfl) dX7_findPath_41 ?_
  exact pr_ireturn hA rfl rfl (Nat.zero_le _) (Nat.zero_le _) dX7_findPath_44 ⟨rfl, rfl, rfl, rfl⟩

theorem wI_fx_fp {σ : pr_I} {s t : Nat} {u : Int32} (h : wI σ) : wI (fx_fp σ s t u) := by unfold fx_fp; exact wI_find (wI_nl24 h) h
noncomputable def fx_len (σ : pr_I) (s t : Nat) (u : Int32) : Nat := (fx_fp_r σ s t u).toNatClampNeg
theorem fx_len_eq {σ : pr_I} {s t : Nat} {u : Int32} (h : wI σ) : fx_fp_r σ s t u = nI (fx_len σ s t u) := by unfold fx_len fx_fp_r; exact pt_len_eq (wI_nl24 h) h
theorem fx_len_le {σ : pr_I} {s t : Nat} {u : Int32} (h : wI σ) : fx_len σ s t u ≤ 11 := by unfold fx_len fx_fp_r; exact pt_len_le (wI_nl24 h) h
theorem fx_ml {σ : pr_I} {s t : Nat} {u : Int32} (h : wI σ) (h0 : fx_len σ s t u ≠ 0) : ptm (fx_fp σ s t u) = fx_len σ s t u := by
  have e := fx_len_eq (s := s) (t := t) (u := u) h
  have hl := fx_len_le (s := s) (t := t) (u := u) h
  have hne : fx_fp_r σ s t u ≠ 0 := by
    rw [e]; intro q
    exact h0 ((nI_eq (by omega) (by decide)).mp (q.trans (show (0 : Int32) = nI 0 from rfl)))
  unfold ptm fx_fp
  rw [find_mlr (show pt_find_r _ _ _ _ _ ≠ 0 from hne)]
  rfl
noncomputable def fx_cheapest_r (σ : pr_I) (s : Nat) (t : Nat) (u : Int32) : Int32 := (if (nI (fx_len σ s t u)) = 0 then ((-1) : Int32) else (pt_sum_pr (fx_fp σ s t u) 0 (ptm (fx_fp σ s t u) - 0)))
noncomputable def fx_cheapest (σ : pr_I) (s : Nat) (t : Nat) (u : Int32) : pr_I := (fx_fp σ s t u)
set_option maxRecDepth 100000 in
set_option maxHeartbeats 400000 in
theorem c_fx_cheapest {g : pr_C} {l : Launch} (hl : l.stackTraces = false) {T : pr_T} {I : pr_I} {L : pr_L} {w : Nat} {σ : pr_I} {s : Nat} {t : Nat} {u : Int32} (hw : pr_W T w) {x v sn f y : Nat} (hx : pr_X7 T x w v sn f y) (hI : wI σ) (hs : s < ndn σ) (ht : t < ndn σ) (hst : s ≠ t) (hu1 : 0 ≤ u) (hu2 : u ≤ 1000) : pr_M g l 11 0 0 mX7_cheapest [.ref x, .int (nI s), .int (nI t), .int u] T (ws_put I w σ) L (pr_R (some (.int (fx_cheapest_r σ s t u))) T (ws_put I w (fx_cheapest σ s t u)) L) pr_no := by
  refine pr_ofG (by decide) rfl hl (Nat.le_of_ble_eq_true rfl) (fun X hA hX hXn hXt => ?_)
  subst hX
  show pr_G g X mX7_cheapest.2.2.1 _ 0 0 0 [.ref x, .int (nI s), .int (nI t), .int u, .null] [] T (ws_put I w σ) L
  have hl24 := wI_nl24 hI
  have hn5 := wI_n5 hI
  have hr4 := wI_nr4 hI
  have hn12 := wI_nn12 hI
  have hle := fx_len_le (s := s) (t := t) (u := u) hI
  refine pr_aload_n hA dX7_cheapest_0 rfl ?_
  refine pr_iload_n hA dX7_cheapest_1 rfl ?_
  refine pr_iload_n hA dX7_cheapest_2 rfl ?_
  refine pr_iload_n hA dX7_cheapest_3 rfl ?_
  refine pr_callVi hA [.int (nI s), .int (nI t), .int u] (c_fx_fp (w := w) (σ := σ) (pr_hl hA) hw hx hI (by omega) (by omega) (by omega) hu1 hu2) v_X7_202 (tx_k hx) (by decide) rfl rfl rfl (by decide) (Nat.zero_le _) (Nat.zero_le _) rfl (Nat.le_of_ble_eq_true rfl) dX7_cheapest_4 ?_
  rw [show (fx_fp_r σ s t u) = (nI (fx_len σ s t u)) from (fx_len_eq hI)]
  refine pr_istore (ls' := [_, _, _, _, _]) hA dX7_cheapest_7 (by decide) rfl ?_
  refine pr_iload hA dX7_cheapest_9 rfl ?_
  refine pr_join (c := (nI (fx_len σ s t u)) = 0) (J := 39) (st := []) ((-1) : Int32) (pt_sum_pr (fx_fp σ s t u) 0 (ptm (fx_fp σ s t u) - 0)) inferInstance (fun kt kf => ?_) ?_
  · refine pr_if_ne hA 18 dX7_cheapest_11 (by decide) (fun c_11 => ?_) (fun c_11 => ?_)
    · refine pr_aload_n hA dX7_cheapest_18 rfl ?_
      refine pr_getR hA f_X7_10 rfl (tx_k hx) (tx_0 hx) dX7_cheapest_19 ?_
      refine pr_getR hA f_X7_206 rfl (wk_0 hw) (wf_0_3 hw) dX7_cheapest_22 ?_
      refine pr_aload_n hA dX7_cheapest_25 rfl ?_
      refine pr_getR hA f_X7_10 rfl (tx_k hx) (tx_0 hx) dX7_cheapest_26 ?_
      refine pr_getR hA f_X7_55 rfl (wk_0 hw) (wf_0_0 hw) dX7_cheapest_29 ?_
      refine pr_getR hA f_X7_210 rfl (wk_1 hw) (wf_1_3 hw) dX7_cheapest_32 ?_
      refine pr_iconst hA (nI 0) dX7_cheapest_35 (by decide) ?_
      refine pr_callVi hA [.ref (w + 5), .int (nI 0)] (c_pt_sum_pr (w := w) (σ := (fx_fp σ s t u)) (ml := ptm (fx_fp σ s t u)) (b := 0) (pr_hl hA) hw (wI_ml (wI_fx_fp hI)) (wI_ml11 (wI_fx_fp hI)) (Nat.zero_le _) (fun k _ => (wI_fx_fp hI) 117 k 24 rfl)) v_X7_213 (wk_116 hw) (by decide) rfl rfl rfl (by decide) (Nat.zero_le _) (Nat.zero_le _) rfl (Nat.le_of_ble_eq_true rfl) dX7_cheapest_36 ?_
      exact kf c_11
    · refine pr_iconst hA ((-1)) dX7_cheapest_14 (by decide) ?_
      refine pr_goto hA 39 dX7_cheapest_15 (by decide) ?_
      exact kt c_11
  · exact pr_ireturn hA rfl rfl (Nat.zero_le _) (Nat.zero_le _) dX7_cheapest_39 ⟨rfl, rfl, rfl, rfl⟩

noncomputable def fx_roundTrip_r (σ : pr_I) (s : Nat) (t : Nat) (u : Int32) : Int32 := (if (nI (fx_len σ s t u)) = 0 then ((-1) : Int32) else ((2 : Int32) * (pt_sum_de (fx_fp σ s t u) 0 (ptm (fx_fp σ s t u) - 0))))
noncomputable def fx_roundTrip (σ : pr_I) (s : Nat) (t : Nat) (u : Int32) : pr_I := (fx_fp σ s t u)
set_option maxRecDepth 100000 in
set_option maxHeartbeats 400000 in
theorem c_fx_roundTrip {g : pr_C} {l : Launch} (hl : l.stackTraces = false) {T : pr_T} {I : pr_I} {L : pr_L} {w : Nat} {σ : pr_I} {s : Nat} {t : Nat} {u : Int32} (hw : pr_W T w) {x v sn f y : Nat} (hx : pr_X7 T x w v sn f y) (hI : wI σ) (hs : s < ndn σ) (ht : t < ndn σ) (hst : s ≠ t) (hu1 : 0 ≤ u) (hu2 : u ≤ 1000) : pr_M g l 11 0 0 mX7_roundTrip [.ref x, .int (nI s), .int (nI t), .int u] T (ws_put I w σ) L (pr_R (some (.int (fx_roundTrip_r σ s t u))) T (ws_put I w (fx_roundTrip σ s t u)) L) pr_no := by
  refine pr_ofG (by decide) rfl hl (Nat.le_of_ble_eq_true rfl) (fun X hA hX hXn hXt => ?_)
  subst hX
  show pr_G g X mX7_roundTrip.2.2.1 _ 0 0 0 [.ref x, .int (nI s), .int (nI t), .int u, .null] [] T (ws_put I w σ) L
  have hl24 := wI_nl24 hI
  have hn5 := wI_n5 hI
  have hr4 := wI_nr4 hI
  have hn12 := wI_nn12 hI
  have hle := fx_len_le (s := s) (t := t) (u := u) hI
  refine pr_aload_n hA dX7_roundTrip_0 rfl ?_
  refine pr_iload_n hA dX7_roundTrip_1 rfl ?_
  refine pr_iload_n hA dX7_roundTrip_2 rfl ?_
  refine pr_iload_n hA dX7_roundTrip_3 rfl ?_
  refine pr_callVi hA [.int (nI s), .int (nI t), .int u] (c_fx_fp (w := w) (σ := σ) (pr_hl hA) hw hx hI (by omega) (by omega) (by omega) hu1 hu2) v_X7_202 (tx_k hx) (by decide) rfl rfl rfl (by decide) (Nat.zero_le _) (Nat.zero_le _) rfl (Nat.le_of_ble_eq_true rfl) dX7_roundTrip_4 ?_
  rw [show (fx_fp_r σ s t u) = (nI (fx_len σ s t u)) from (fx_len_eq hI)]
  refine pr_istore (ls' := [_, _, _, _, _]) hA dX7_roundTrip_7 (by decide) rfl ?_
  refine pr_iload hA dX7_roundTrip_9 rfl ?_
  refine pr_join (c := (nI (fx_len σ s t u)) = 0) (J := 41) (st := []) ((-1) : Int32) ((2 : Int32) * (pt_sum_de (fx_fp σ s t u) 0 (ptm (fx_fp σ s t u) - 0))) inferInstance (fun kt kf => ?_) ?_
  · refine pr_if_ne hA 18 dX7_roundTrip_11 (by decide) (fun c_11 => ?_) (fun c_11 => ?_)
    · refine pr_iconst hA (2) dX7_roundTrip_18 (by decide) ?_
      refine pr_aload_n hA dX7_roundTrip_19 rfl ?_
      refine pr_getR hA f_X7_10 rfl (tx_k hx) (tx_0 hx) dX7_roundTrip_20 ?_
      refine pr_getR hA f_X7_206 rfl (wk_0 hw) (wf_0_3 hw) dX7_roundTrip_23 ?_
      refine pr_aload_n hA dX7_roundTrip_26 rfl ?_
      refine pr_getR hA f_X7_10 rfl (tx_k hx) (tx_0 hx) dX7_roundTrip_27 ?_
      refine pr_getR hA f_X7_55 rfl (wk_0 hw) (wf_0_0 hw) dX7_roundTrip_30 ?_
      refine pr_getR hA f_X7_222 rfl (wk_1 hw) (wf_1_4 hw) dX7_roundTrip_33 ?_
      refine pr_iconst hA (nI 0) dX7_roundTrip_36 (by decide) ?_
      refine pr_callVi hA [.ref (w + 6), .int (nI 0)] (c_pt_sum_de (w := w) (σ := (fx_fp σ s t u)) (ml := ptm (fx_fp σ s t u)) (b := 0) (pr_hl hA) hw (wI_ml (wI_fx_fp hI)) (wI_ml11 (wI_fx_fp hI)) (Nat.zero_le _) (fun k _ => (wI_fx_fp hI) 117 k 24 rfl)) v_X7_213 (wk_116 hw) (by decide) rfl rfl rfl (by decide) (Nat.zero_le _) (Nat.zero_le _) rfl (Nat.le_of_ble_eq_true rfl) dX7_roundTrip_37 ?_
      refine pr_imul hA dX7_roundTrip_40 ?_
      exact kf c_11
    · refine pr_iconst hA ((-1)) dX7_roundTrip_14 (by decide) ?_
      refine pr_goto hA 41 dX7_roundTrip_15 (by decide) ?_
      exact kt c_11
  · exact pr_ireturn hA rfl rfl (Nat.zero_le _) (Nat.zero_le _) dX7_roundTrip_41 ⟨rfl, rfl, rfl, rfl⟩

theorem vp_ix {n : Nat} {z : Int32} (hn : n ≤ 11) (h0 : 0 ≤ z) (h1 : ¬ nI n ≤ z) : vp_in z 11 := vpi_of h0 (by
  have := Int32.lt_iff_toInt_lt.mp (Int32.not_le.mp h1)
  have e : (nI n).toInt = n := Int32.toInt_ofNat_of_lt (by omega)
  rw [e] at this; omega)
noncomputable def fx_cheapestLink_r (σ : pr_I) (s : Nat) (t : Nat) (u : Int32) (i : Int32) : Int32 := (if i < 0 then ((-1) : Int32) else (if (nI (fx_len σ s t u)) ≤ i then ((-1) : Int32) else ((fx_fp σ s t u) 117 i.toNatClampNeg)))
noncomputable def fx_cheapestLink (σ : pr_I) (s : Nat) (t : Nat) (u : Int32) (i : Int32) : pr_I := (fx_fp σ s t u)
noncomputable def fx_neededHold_it15 (σ : pr_I) (s : Nat) (t : Nat) (u : Int32) : Nat → Int32
  | 0 => (0 : Int32)
  | k + 1 => (if (fx_neededHold_it15 σ s t u k) < (((2 : Int32) * (pt_sum_de (fx_fp σ s t u) (k + 1) (ptm (fx_fp σ s t u) - (k + 1)))) + ((fx_fp σ s t u) 6 (((fx_fp σ s t u) 117 k).toNatClampNeg))) then (((2 : Int32) * (pt_sum_de (fx_fp σ s t u) (k + 1) (ptm (fx_fp σ s t u) - (k + 1)))) + ((fx_fp σ s t u) 6 (((fx_fp σ s t u) 117 k).toNatClampNeg))) else (fx_neededHold_it15 σ s t u k))
noncomputable def fx_neededHold_r (σ : pr_I) (s : Nat) (t : Nat) (u : Int32) : Int32 := (if (nI (fx_len σ s t u)) = 0 then ((-1) : Int32) else ((fx_neededHold_it15 σ s t u (fx_len σ s t u)) + (1 : Int32)))
noncomputable def fx_neededHold (σ : pr_I) (s : Nat) (t : Nat) (u : Int32) : pr_I := (fx_fp σ s t u)
set_option maxRecDepth 100000 in
set_option maxHeartbeats 400000 in
theorem c_fx_neededHold {g : pr_C} {l : Launch} (hl : l.stackTraces = false) {T : pr_T} {I : pr_I} {L : pr_L} {w : Nat} {σ : pr_I} {s : Nat} {t : Nat} {u : Int32} (hw : pr_W T w) {x v sn f y : Nat} (hx : pr_X7 T x w v sn f y) (hI : wI σ) (hs : s < ndn σ) (ht : t < ndn σ) (hst : s ≠ t) (hu1 : 0 ≤ u) (hu2 : u ≤ 1000) : pr_M g l 11 0 0 mX7_neededHold [.ref x, .int (nI s), .int (nI t), .int u] T (ws_put I w σ) L (pr_R (some (.int (fx_neededHold_r σ s t u))) T (ws_put I w (fx_neededHold σ s t u)) L) pr_no := by
  refine pr_ofG (by decide) rfl hl (Nat.le_of_ble_eq_true rfl) (fun X hA hX hXn hXt => ?_)
  subst hX
  show pr_G g X mX7_neededHold.2.2.1 _ 0 0 0 [.ref x, .int (nI s), .int (nI t), .int u, .null, .null, .null, .null] [] T (ws_put I w σ) L
  have hl24 := wI_nl24 hI
  have hn5 := wI_n5 hI
  have hr4 := wI_nr4 hI
  have hn12 := wI_nn12 hI
  have hle := fx_len_le (s := s) (t := t) (u := u) hI
  refine pr_aload_n hA dX7_neededHold_0 rfl ?_
  refine pr_iload_n hA dX7_neededHold_1 rfl ?_
  refine pr_iload_n hA dX7_neededHold_2 rfl ?_
  refine pr_iload_n hA dX7_neededHold_3 rfl ?_
  refine pr_callVi hA [.int (nI s), .int (nI t), .int u] (c_fx_fp (w := w) (σ := σ) (pr_hl hA) hw hx hI (by omega) (by omega) (by omega) hu1 hu2) v_X7_202 (tx_k hx) (by decide) rfl rfl rfl (by decide) (Nat.zero_le _) (Nat.zero_le _) rfl (Nat.le_of_ble_eq_true rfl) dX7_neededHold_4 ?_
  rw [show (fx_fp_r σ s t u) = (nI (fx_len σ s t u)) from (fx_len_eq hI)]
  refine pr_istore (ls' := [_, _, _, _, _, _, _, _]) hA dX7_neededHold_7 (by decide) rfl ?_
  refine pr_iconst hA (0) dX7_neededHold_9 (by decide) ?_
  refine pr_istore (ls' := [_, _, _, _, _, _, _, _]) hA dX7_neededHold_10 (by decide) rfl ?_
  refine pr_iconst hA (nI 0) dX7_neededHold_12 (by decide) ?_
  refine pr_istore (ls' := [_, _, _, _, _, _, _, _]) hA dX7_neededHold_13 (by decide) rfl ?_
  have lp15 : ∀ (j k : Nat), (fx_len σ s t u) - k = j → k ≤ (fx_len σ s t u) → pr_G g X mX7_neededHold.2.2.1 (pr_MQ g X (pr_R (some (.int (fx_neededHold_r σ s t u))) T (ws_put I w (fx_neededHold σ s t u)) L) pr_no 0 0) 0 0 15 [.ref x, .int (nI s), .int (nI t), .int u, .int (nI (fx_len σ s t u)), .int (fx_neededHold_it15 σ s t u k), .int (nI k), .null] [] T (ws_put I w (fx_fp σ s t u)) L := by
    intro j
    induction j using Nat.strongRecOn with | ind j ih15 =>
    intro k hj15 hk15
    refine pr_iload hA dX7_neededHold_15 rfl ?_
    refine pr_iload hA dX7_neededHold_17 rfl ?_
    refine pr_icmp_ge hA 90 dX7_neededHold_19 (by decide) (fun c_19 => ?_) (fun c_19 => ?_)
    · have n_19 : (fx_len σ s t u) ≤ k := (nI_leI (by omega) (by omega)).mp c_19
      have hex : (fx_len σ s t u) = k := by omega
      subst hex
      refine pr_iload hA dX7_neededHold_90 rfl ?_
      refine pr_join (c := (nI (fx_len σ s t u)) = 0) (J := 103) (st := []) ((-1) : Int32) ((fx_neededHold_it15 σ s t u (fx_len σ s t u)) + (1 : Int32)) inferInstance (fun kt kf => ?_) ?_
      · refine pr_if_ne hA 99 dX7_neededHold_92 (by decide) (fun c_92 => ?_) (fun c_92 => ?_)
        · refine pr_iload hA dX7_neededHold_99 rfl ?_
          refine pr_iconst hA (1) dX7_neededHold_101 (by decide) ?_
          refine pr_iadd hA dX7_neededHold_102 ?_
          exact kf c_92
        · refine pr_iconst hA ((-1)) dX7_neededHold_95 (by decide) ?_
          refine pr_goto hA 103 dX7_neededHold_96 (by decide) ?_
          exact kt c_92
      · exact pr_ireturn hA rfl rfl (Nat.zero_le _) (Nat.zero_le _) dX7_neededHold_103 ⟨rfl, rfl, rfl, rfl⟩
    · have n_19 : ¬ (fx_len σ s t u) ≤ k := fun q => c_19 ((nI_leI (by omega) (by omega)).mpr q)
      refine pr_aload_n hA dX7_neededHold_22 rfl ?_
      refine pr_getR hA f_X7_10 rfl (tx_k hx) (tx_0 hx) dX7_neededHold_23 ?_
      refine pr_getR hA f_X7_55 rfl (wk_0 hw) (wf_0_0 hw) dX7_neededHold_26 ?_
      refine pr_getR hA f_X7_222 rfl (wk_1 hw) (wf_1_4 hw) dX7_neededHold_29 ?_
      refine pr_aload_n hA dX7_neededHold_32 rfl ?_
      refine pr_getR hA f_X7_10 rfl (tx_k hx) (tx_0 hx) dX7_neededHold_33 ?_
      refine pr_getR hA f_X7_206 rfl (wk_0 hw) (wf_0_3 hw) dX7_neededHold_36 ?_
      refine pr_getR hA f_X7_219 rfl (wk_116 hw) (wf_116_0 hw) dX7_neededHold_39 ?_
      refine pr_iload hA dX7_neededHold_42 rfl ?_
      refine pr_ialdN (v := ((fx_fp σ s t u) 117 k)) hA (wk_117 hw) (by omega) (by omega) (ws_val (by decide)) dX7_neededHold_44 ?_
      refine pr_ialdE (v := ((fx_fp σ s t u) 6 (((fx_fp σ s t u) 117 k).toNatClampNeg))) hA (wk_6 hw) (wI_fx_fp hI 117 _ 24 rfl) (ws_val (by decide)) dX7_neededHold_45 ?_
      refine pr_istore (ls' := [_, _, _, _, _, _, _, _]) hA dX7_neededHold_46 (by decide) rfl ?_
      refine pr_iload hA dX7_neededHold_48 rfl ?_
      refine pr_iconst hA (2) dX7_neededHold_50 (by decide) ?_
      refine pr_aload_n hA dX7_neededHold_51 rfl ?_
      refine pr_getR hA f_X7_10 rfl (tx_k hx) (tx_0 hx) dX7_neededHold_52 ?_
      refine pr_getR hA f_X7_206 rfl (wk_0 hw) (wf_0_3 hw) dX7_neededHold_55 ?_
      refine pr_aload_n hA dX7_neededHold_58 rfl ?_
      refine pr_getR hA f_X7_10 rfl (tx_k hx) (tx_0 hx) dX7_neededHold_59 ?_
      refine pr_getR hA f_X7_55 rfl (wk_0 hw) (wf_0_0 hw) dX7_neededHold_62 ?_
      refine pr_getR hA f_X7_222 rfl (wk_1 hw) (wf_1_4 hw) dX7_neededHold_65 ?_
      refine pr_iload hA dX7_neededHold_68 rfl ?_
      refine pr_iconst hA (1) dX7_neededHold_70 (by decide) ?_
      refine pr_iaddE (v := nI (k + 1)) hA (nI_1 _) dX7_neededHold_71 ?_
      refine pr_callVi hA [.ref (w + 6), .int (nI (k + 1))] (c_pt_sum_de (w := w) (σ := (fx_fp σ s t u)) (ml := ptm (fx_fp σ s t u)) (b := (k + 1)) (pr_hl hA) hw (wI_ml (wI_fx_fp hI)) (wI_ml11 (wI_fx_fp hI)) (by have := fx_ml hI (show fx_len σ s t u ≠ 0 by omega); omega) (fun k _ => (wI_fx_fp hI) 117 k 24 rfl)) v_X7_213 (wk_116 hw) (by decide) rfl rfl rfl (by decide) (Nat.zero_le _) (Nat.zero_le _) rfl (Nat.le_of_ble_eq_true rfl) dX7_neededHold_72 ?_
      refine pr_imul hA dX7_neededHold_75 ?_
      refine pr_iload hA dX7_neededHold_76 rfl ?_
      refine pr_iadd hA dX7_neededHold_78 ?_
      refine pr_mmax hA rfl ⟨kM_X7_225, kT_J9_max_7cf53, kZ_J9, kO_J9_max_7cf53⟩ (by decide) (Nat.zero_le _) (Nat.zero_le _) (Nat.le_of_ble_eq_true rfl) dX7_neededHold_79 ?_
      refine pr_istore (ls' := [_, _, _, _, _, _, _, _]) hA dX7_neededHold_82 (by decide) rfl ?_
      refine pr_iinc (ls' := [_, _, _, _, _, _, _, _]) hA (nI (k + 1)) dX7_neededHold_84 (by decide) rfl (nI_inc _) rfl ?_
      refine pr_goto hA 15 dX7_neededHold_87 (by decide) ?_
      have hb := ih15 ((fx_len σ s t u) - (k + 1)) (by omega) (k + 1) rfl (by omega)
      simp only [fx_neededHold_it15] at hb
      exact pr_lessL (ls' := [.ref x, .int (nI s), .int (nI t), .int u, .int (nI (fx_len σ s t u)), .int (if (fx_neededHold_it15 σ s t u k) < (((2 : Int32) * (pt_sum_de (fx_fp σ s t u) (k + 1) (ptm (fx_fp σ s t u) - (k + 1)))) + ((fx_fp σ s t u) 6 (((fx_fp σ s t u) 117 k).toNatClampNeg))) then (((2 : Int32) * (pt_sum_de (fx_fp σ s t u) (k + 1) (ptm (fx_fp σ s t u) - (k + 1)))) + ((fx_fp σ s t u) 6 (((fx_fp σ s t u) 117 k).toNatClampNeg))) else (fx_neededHold_it15 σ s t u k)), .int (nI (k + 1)), .null]) ⟨.inr rfl, .inr rfl, .inr rfl, .inr rfl, .inr rfl, .inr rfl, .inr rfl, .inl rfl, trivial⟩ hb
  exact (lp15 ((fx_len σ s t u) - 0) 0 rfl (by omega))

noncomputable def fx_request_r (σ : pr_I) (s : Nat) (t : Nat) (u : Int32) (q : Int32) : Int32 := (w_mk_r σ (nI s) (nI t) u q)
noncomputable def fx_request (σ : pr_I) (s : Nat) (t : Nat) (u : Int32) (q : Int32) : pr_I := (w_mk σ (nI s) (nI t) u q)
set_option maxRecDepth 100000 in
set_option maxHeartbeats 400000 in
theorem c_fx_request {g : pr_C} {l : Launch} (hl : l.stackTraces = false) {T : pr_T} {I : pr_I} {L : pr_L} {w : Nat} {σ : pr_I} {s : Nat} {t : Nat} {u : Int32} {q : Int32} (hw : pr_W T w) {x v sn f y : Nat} (hx : pr_X7 T x w v sn f y) (hI : wI σ) (hs : s < ndn σ) (ht : t < ndn σ) (hst : s ≠ t) (hu1 : 1 ≤ u) (hu2 : u ≤ 1000) (hq1 : 1 ≤ q) (hq2 : q ≤ 10000) : pr_M g l 11 0 0 mX7_request [.ref x, .int (nI s), .int (nI t), .int u, .int q] T (ws_put I w σ) L (pr_R (some (.int (fx_request_r σ s t u q))) T (ws_put I w (fx_request σ s t u q)) L) pr_no := by
  refine pr_ofG (by decide) rfl hl (Nat.le_of_ble_eq_true rfl) (fun X hA hX hXn hXt => ?_)
  subst hX
  show pr_G g X mX7_request.2.2.1 _ 0 0 0 [.ref x, .int (nI s), .int (nI t), .int u, .int q] [] T (ws_put I w σ) L
  have hl24 := wI_nl24 hI
  have hn5 := wI_n5 hI
  have hr4 := wI_nr4 hI
  have hn12 := wI_nn12 hI
  refine pr_aload_n hA dX7_request_0 rfl ?_
  refine pr_iload_n hA dX7_request_1 rfl ?_
  refine pr_iload_n hA dX7_request_2 rfl ?_
  refine pr_callVv hA [.int (nI s), .int (nI t)] (c_fx_rp (w := w) (σ := σ) (pr_hl hA) hw hx hI (by omega) (by omega) (by omega)) v_X7_124 (tx_k hx) (by decide) rfl rfl rfl (by decide) (Nat.zero_le _) (Nat.zero_le _) rfl (Nat.le_of_ble_eq_true rfl) dX7_request_3 ?_
  refine pr_iload_n hA dX7_request_6 rfl ?_
  refine pr_iconst hA (1) dX7_request_7 (by decide) ?_
  refine pr_sipush hA (1000) dX7_request_8 (by decide) ?_
  refine pr_callSv hA [.int u, .int (1 : Int32), .int (1000 : Int32)] (c_rr_ok (pr_hl hA) hu1 hu2) s_X7_86 rfl (by decide) (Nat.zero_le _) (Nat.zero_le _) rfl (Nat.le_of_ble_eq_true rfl) dX7_request_11 ?_
  refine pr_iload hA dX7_request_14 rfl ?_
  refine pr_iconst hA (1) dX7_request_16 (by decide) ?_
  refine pr_sipush hA (10000) dX7_request_17 (by decide) ?_
  refine pr_callSv hA [.int q, .int (1 : Int32), .int (10000 : Int32)] (c_rr_ok (pr_hl hA) hq1 hq2) s_X7_86 rfl (by decide) (Nat.zero_le _) (Nat.zero_le _) rfl (Nat.le_of_ble_eq_true rfl) dX7_request_20 ?_
  refine pr_aload_n hA dX7_request_23 rfl ?_
  refine pr_getR hA f_X7_10 rfl (tx_k hx) (tx_0 hx) dX7_request_24 ?_
  refine pr_iload_n hA dX7_request_27 rfl ?_
  refine pr_iload_n hA dX7_request_28 rfl ?_
  refine pr_iload_n hA dX7_request_29 rfl ?_
  refine pr_iload hA dX7_request_30 rfl ?_
  have hv32 : wI σ := hI
  refine pr_callVi hA [.int (nI s), .int (nI t), .int u, .int q] (c_w_mk (w := w) (σ := σ) (s := (nI s)) (t := (nI t)) (u := u) (q := q) (pr_hl hA) hw hv32 (nI_vin (by omega) (by decide)) (nI_vin (by omega) (by decide))) v_X7_127 (wk_0 hw) (by decide) rfl rfl rfl (by decide) (Nat.zero_le _) (Nat.zero_le _) rfl (Nat.le_of_ble_eq_true rfl) dX7_request_32 ?_
  exact pr_ireturn hA rfl rfl (Nat.zero_le _) (Nat.zero_le _) dX7_request_35 ⟨rfl, rfl, rfl, rfl⟩

theorem pl_in {z L : Int32} (hL : vp_in L 12) (h : ¬ (if z < 0 then (0 : Int32) else (if L ≤ z then (0 : Int32) else (1 : Int32))) = 0) : vp_in z 11 := by
  by_cases c : z < 0
  · rw [if_pos c] at h; exact absurd rfl h
  · rw [if_neg c] at h
    by_cases c2 : L ≤ z
    · rw [if_pos c2] at h; exact absurd rfl h
    · obtain ⟨n, hn, rfl⟩ := vp_in_of hL (by decide)
      exact vp_ix (by omega) (Int32.not_lt.mp c) c2
noncomputable def fx_pathLink_r (σ : pr_I) (k : Nat) (i : Int32) : Int32 := (if (if i < 0 then (0 : Int32) else (if (σ 32 k) ≤ i then (0 : Int32) else (1 : Int32))) = 0 then ((-1) : Int32) else (σ (35 + k) i.toNatClampNeg))
set_option maxRecDepth 100000 in
set_option maxHeartbeats 400000 in
theorem c_fx_pathLink {g : pr_C} {l : Launch} (hl : l.stackTraces = false) {T : pr_T} {I : pr_I} {L : pr_L} {w : Nat} {σ : pr_I} {k : Nat} {i : Int32} (hw : pr_W T w) {x v sn f y : Nat} (hx : pr_X7 T x w v sn f y) (hI : wI σ) (hk : k < rqn σ) : pr_M g l 8 0 0 mX7_pathLink [.ref x, .int (nI k), .int i] T (ws_put I w σ) L (pr_R (some (.int (fx_pathLink_r σ k i))) T (ws_put I w σ) L) pr_no := by
  refine pr_ofG (by decide) rfl hl (Nat.le_of_ble_eq_true rfl) (fun X hA hX hXn hXt => ?_)
  subst hX
  show pr_G g X mX7_pathLink.2.2.1 _ 0 0 0 [.ref x, .int (nI k), .int i, .null] [] T (ws_put I w σ) L
  have hl24 := wI_nl24 hI
  have hn5 := wI_n5 hI
  have hr4 := wI_nr4 hI
  have hn12 := wI_nn12 hI
  refine pr_iload_n hA dX7_pathLink_0 rfl ?_
  refine pr_aload_n hA dX7_pathLink_1 rfl ?_
  refine pr_getR hA f_X7_10 rfl (tx_k hx) (tx_0 hx) dX7_pathLink_2 ?_
  refine pr_getR hA f_X7_131 rfl (wk_0 hw) (wf_0_2 hw) dX7_pathLink_5 ?_
  refine pr_getE (v := (nI (rqn σ))) hA f_X7_135 rfl (wk_18 hw) ((ws_val (by decide)).trans (wI_nr hI)) dX7_pathLink_8 ?_
  refine pr_callSv hA [.int (nI k), .int (nI (rqn σ))] (c_ri_ok (pr_hl hA) (by omega) (by omega)) s_X7_74 rfl (by decide) (Nat.zero_le _) (Nat.zero_le _) rfl (Nat.le_of_ble_eq_true rfl) dX7_pathLink_11 ?_
  refine pr_iload_n hA dX7_pathLink_14 rfl ?_
  refine pr_join (c := i < 0) (J := 39) (st := []) (0 : Int32) (if (σ 32 k) ≤ i then (0 : Int32) else (1 : Int32)) inferInstance (fun kt kf => ?_) ?_
  · refine pr_if_lt hA 38 dX7_pathLink_15 (by decide) (fun c_15 => ?_) (fun c_15 => ?_)
    · refine pr_iconst hA (0) dX7_pathLink_38 (by decide) ?_
      exact kt c_15
    · refine pr_iload_n hA dX7_pathLink_18 rfl ?_
      refine pr_aload_n hA dX7_pathLink_19 rfl ?_
      refine pr_getR hA f_X7_10 rfl (tx_k hx) (tx_0 hx) dX7_pathLink_20 ?_
      refine pr_getR hA f_X7_131 rfl (wk_0 hw) (wf_0_2 hw) dX7_pathLink_23 ?_
      refine pr_getR hA f_X7_162 rfl (wk_18 hw) (wf_18_13 hw) dX7_pathLink_26 ?_
      refine pr_iload_n hA dX7_pathLink_29 rfl ?_
      refine pr_ialdN (v := (σ 32 k)) hA (wk_32 hw) (by omega) (by omega) (ws_val (by decide)) dX7_pathLink_30 ?_
      refine pr_join (c := (σ 32 k) ≤ i) (J := 39) (st := []) (0 : Int32) (1 : Int32) inferInstance (fun kt kf => ?_) ?_
      · refine pr_icmp_ge hA 38 dX7_pathLink_31 (by decide) (fun c_31 => ?_) (fun c_31 => ?_)
        · refine pr_iconst hA (0) dX7_pathLink_38 (by decide) ?_
          exact kt c_31
        · refine pr_iconst hA (1) dX7_pathLink_34 (by decide) ?_
          refine pr_goto hA 39 dX7_pathLink_35 (by decide) ?_
          exact kf c_31
      · exact kf c_15
  · refine pr_istore_n (ls' := [_, _, _, _]) hA dX7_pathLink_39 (by decide) rfl ?_
    refine pr_iload_n hA dX7_pathLink_40 rfl ?_
    refine pr_join (c := (if i < 0 then (0 : Int32) else (if (σ 32 k) ≤ i then (0 : Int32) else (1 : Int32))) = 0) (J := 62) (st := []) ((-1) : Int32) (σ (35 + k) i.toNatClampNeg) inferInstance (fun kt kf => ?_) ?_
    · refine pr_if_eq hA 61 dX7_pathLink_41 (by decide) (fun c_41 => ?_) (fun c_41 => ?_)
      · refine pr_iconst hA ((-1)) dX7_pathLink_61 (by decide) ?_
        exact kt c_41
      · refine pr_aload_n hA dX7_pathLink_44 rfl ?_
        refine pr_getR hA f_X7_10 rfl (tx_k hx) (tx_0 hx) dX7_pathLink_45 ?_
        refine pr_getR hA f_X7_131 rfl (wk_0 hw) (wf_0_2 hw) dX7_pathLink_48 ?_
        refine pr_getR hA f_X7_165 rfl (wk_18 hw) (wf_18_15 hw) dX7_pathLink_51 ?_
        refine pr_iload_n hA dX7_pathLink_54 rfl ?_
        refine pr_aaldN (t := 24) (n := 40) hA (Or.inl rfl) (wk_34 hw) (by omega) (by decide) (wf_p hw (by omega)) dX7_pathLink_55 ?_
        refine pr_iload_n hA dX7_pathLink_56 rfl ?_
        refine pr_ialdE (v := (σ (35 + k) i.toNatClampNeg)) hA (wk_p hw (by omega)) (pl_in (hI 32 k 12 rfl) c_41) (ws_val (by omega)) dX7_pathLink_57 ?_
        refine pr_goto hA 62 dX7_pathLink_58 (by decide) ?_
        exact kf c_41
    · exact pr_ireturn hA rfl rfl (Nat.zero_le _) (Nat.zero_le _) dX7_pathLink_62 ⟨rfl, rfl, rfl, rfl⟩

noncomputable def fx_ticketsInState_it10 (σ : pr_I) (c : Nat) : Nat → Int32
  | 0 => (0 : Int32)
  | k + 1 => ((fx_ticketsInState_it10 σ c k) + (tk_cnt σ (nI k) (nI c) (tkn σ)))
noncomputable def fx_ticketsInState_r (σ : pr_I) (c : Nat) : Int32 := (fx_ticketsInState_it10 σ c (rqn σ))
noncomputable def fx_isSafe_rl2 (σ : pr_I) : Nat → Nat → Int32
  | 0, _ => 0
  | j + 1, k => (if (nI (lkn σ)) ≤ (nI k) then (1 : Int32) else (if (σ 7 k) ≤ (σ 4 k) then (fx_isSafe_rl2 σ j (k + 1)) else (0 : Int32)))
noncomputable def fx_isSafe_r (σ : pr_I) : Int32 := (fx_isSafe_rl2 σ ((lkn σ) + 1) 0)
set_option maxRecDepth 100000 in
set_option maxHeartbeats 400000 in
theorem c_fx_isSafe {g : pr_C} {l : Launch} (hl : l.stackTraces = false) {T : pr_T} {I : pr_I} {L : pr_L} {w : Nat} {σ : pr_I}  (hw : pr_W T w) {x v sn f y : Nat} (hx : pr_X7 T x w v sn f y) (hI : wI σ) : pr_M g l 8 0 0 mX7_isSafe [.ref x] T (ws_put I w σ) L (pr_R (some (.int (fx_isSafe_r σ))) T (ws_put I w σ) L) pr_no := by
  refine pr_ofG (by decide) rfl hl (Nat.le_of_ble_eq_true rfl) (fun X hA hX hXn hXt => ?_)
  subst hX
  show pr_G g X mX7_isSafe.2.2.1 _ 0 0 0 [.ref x, .null] [] T (ws_put I w σ) L
  have hl24 := wI_nl24 hI
  have hn5 := wI_n5 hI
  have hr4 := wI_nr4 hI
  have hn12 := wI_nn12 hI
  refine pr_iconst hA (nI 0) dX7_isSafe_0 (by decide) ?_
  refine pr_istore_n (ls' := [_, _]) hA dX7_isSafe_1 (by decide) rfl ?_
  obtain ⟨R, hR0⟩ : ∃ R, fx_isSafe_rl2 σ ((lkn σ) + 1) 0 = R := ⟨_, rfl⟩
  have hf : fx_isSafe_r σ = R := by simp only [fx_isSafe_r, hR0]
  have lp2 : ∀ (j k : Nat), (lkn σ) + 1 - k = j → k ≤ (lkn σ) → fx_isSafe_rl2 σ j k = R → pr_G g X mX7_isSafe.2.2.1 (pr_MQ g X (pr_R (some (.int (fx_isSafe_r σ))) T (ws_put I w σ) L) pr_no 0 0) 0 0 2 [.ref x, .int (nI k)] [] T (ws_put I w σ) L := by
    intro j
    induction j with
    | zero => intro k  hj hk hR; omega
    | succ j ih =>
      intro k  hj hk hR
      refine pr_iload_n hA dX7_isSafe_2 rfl ?_
      refine pr_aload_n hA dX7_isSafe_3 rfl ?_
      refine pr_getR hA f_X7_10 rfl (tx_k hx) (tx_0 hx) dX7_isSafe_4 ?_
      refine pr_getR hA f_X7_55 rfl (wk_0 hw) (wf_0_0 hw) dX7_isSafe_7 ?_
      refine pr_getE (v := (nI (lkn σ))) hA f_X7_59 rfl (wk_1 hw) ((ws_val (by decide)).trans (wI_nl hI)) dX7_isSafe_10 ?_
      refine pr_icmp_ge hA 51 dX7_isSafe_13 (by decide) (fun c_13 => ?_) (fun c_13 => ?_)
      · have n_13 : (lkn σ) ≤ k := (nI_leI (by omega) (by omega)).mp c_13
        refine pr_iconst hA (1) dX7_isSafe_51 (by decide) ?_
        simp only [fx_isSafe_rl2, if_pos c_13] at hR
        exact pr_ireturn hA rfl (pr_nb (by first | decide | (split <;> simp))) (Nat.zero_le _) (Nat.zero_le _) dX7_isSafe_52 ⟨(by rw [hf, ← hR]), rfl, rfl, rfl⟩
      · have n_13 : ¬ (lkn σ) ≤ k := fun q => c_13 ((nI_leI (by omega) (by omega)).mpr q)
        refine pr_aload_n hA dX7_isSafe_16 rfl ?_
        refine pr_getR hA f_X7_10 rfl (tx_k hx) (tx_0 hx) dX7_isSafe_17 ?_
        refine pr_getR hA f_X7_55 rfl (wk_0 hw) (wf_0_0 hw) dX7_isSafe_20 ?_
        refine pr_getR hA f_X7_104 rfl (wk_1 hw) (wf_1_5 hw) dX7_isSafe_23 ?_
        refine pr_iload_n hA dX7_isSafe_26 rfl ?_
        refine pr_ialdN (v := (σ 7 k)) hA (wk_7 hw) (by omega) (by omega) (ws_val (by decide)) dX7_isSafe_27 ?_
        refine pr_aload_n hA dX7_isSafe_28 rfl ?_
        refine pr_getR hA f_X7_10 rfl (tx_k hx) (tx_0 hx) dX7_isSafe_29 ?_
        refine pr_getR hA f_X7_55 rfl (wk_0 hw) (wf_0_0 hw) dX7_isSafe_32 ?_
        refine pr_getR hA f_X7_107 rfl (wk_1 hw) (wf_1_2 hw) dX7_isSafe_35 ?_
        refine pr_iload_n hA dX7_isSafe_38 rfl ?_
        refine pr_ialdN (v := (σ 4 k)) hA (wk_4 hw) (by omega) (by omega) (ws_val (by decide)) dX7_isSafe_39 ?_
        refine pr_icmp_le hA 45 dX7_isSafe_40 (by decide) (fun c_40 => ?_) (fun c_40 => ?_)
        · refine pr_iinc (ls' := [_, _]) hA (nI (k + 1)) dX7_isSafe_45 (by decide) rfl (nI_inc _) rfl ?_
          refine pr_goto hA 2 dX7_isSafe_48 (by decide) ?_
          simp only [fx_isSafe_rl2, if_neg c_13, if_pos c_40] at hR
          exact (ih (k + 1) (by omega) (by omega) hR)
        · refine pr_iconst hA (0) dX7_isSafe_43 (by decide) ?_
          simp only [fx_isSafe_rl2, if_neg c_13, if_neg c_40] at hR
          exact pr_ireturn hA rfl (pr_nb (by first | decide | (split <;> simp))) (Nat.zero_le _) (Nat.zero_le _) dX7_isSafe_44 ⟨(by rw [hf, ← hR]), rfl, rfl, rfl⟩
  exact (lp2 ((lkn σ) + 1) 0 rfl (Nat.zero_le _) hR0)

noncomputable def fx_widest_r (σ : pr_I) (s : Nat) (t : Nat) : Int32 := (pt_width_r σ (lkn σ) (nI s) (nI t))
set_option maxRecDepth 100000 in
set_option maxHeartbeats 400000 in
theorem c_fx_widest {g : pr_C} {l : Launch} (hl : l.stackTraces = false) {T : pr_T} {I : pr_I} {L : pr_L} {w : Nat} {σ : pr_I} {s : Nat} {t : Nat} (hw : pr_W T w) {x v sn f y : Nat} (hx : pr_X7 T x w v sn f y) (hI : wI σ) (hs : s < ndn σ) (ht : t < ndn σ) (hst : s ≠ t) : pr_M g l 11 0 0 mX7_widest [.ref x, .int (nI s), .int (nI t)] T (ws_put I w σ) L (pr_R (some (.int (fx_widest_r σ s t))) T (ws_put I w σ) L) pr_no := by
  refine pr_ofG (by decide) rfl hl (Nat.le_of_ble_eq_true rfl) (fun X hA hX hXn hXt => ?_)
  subst hX
  show pr_G g X mX7_widest.2.2.1 _ 0 0 0 [.ref x, .int (nI s), .int (nI t)] [] T (ws_put I w σ) L
  have hl24 := wI_nl24 hI
  have hn5 := wI_n5 hI
  have hr4 := wI_nr4 hI
  have hn12 := wI_nn12 hI
  refine pr_aload_n hA dX7_widest_0 rfl ?_
  refine pr_iload_n hA dX7_widest_1 rfl ?_
  refine pr_iload_n hA dX7_widest_2 rfl ?_
  refine pr_callVv hA [.int (nI s), .int (nI t)] (c_fx_rp (w := w) (σ := σ) (pr_hl hA) hw hx hI (by omega) (by omega) (by omega)) v_X7_124 (tx_k hx) (by decide) rfl rfl rfl (by decide) (Nat.zero_le _) (Nat.zero_le _) rfl (Nat.le_of_ble_eq_true rfl) dX7_widest_3 ?_
  refine pr_aload_n hA dX7_widest_6 rfl ?_
  refine pr_getR hA f_X7_10 rfl (tx_k hx) (tx_0 hx) dX7_widest_7 ?_
  refine pr_getR hA f_X7_206 rfl (wk_0 hw) (wf_0_3 hw) dX7_widest_10 ?_
  refine pr_aload_n hA dX7_widest_13 rfl ?_
  refine pr_getR hA f_X7_10 rfl (tx_k hx) (tx_0 hx) dX7_widest_14 ?_
  refine pr_getR hA f_X7_55 rfl (wk_0 hw) (wf_0_0 hw) dX7_widest_17 ?_
  refine pr_iload_n hA dX7_widest_20 rfl ?_
  refine pr_iload_n hA dX7_widest_21 rfl ?_
  have hv22 : wI σ := hI
  refine pr_callVi hA [.ref (w + 1), .int (nI s), .int (nI t)] (c_pt_width (w := w) (σ := σ) (nl := (lkn σ)) (s := (nI s)) (t := (nI t)) (pr_hl hA) hw (wI_nl hv22) (wI_nl24 hv22) (wI_L hv22)) v_X7_230 (wk_116 hw) (by decide) rfl rfl rfl (by decide) (Nat.zero_le _) (Nat.zero_le _) rfl (Nat.le_of_ble_eq_true rfl) dX7_widest_22 ?_
  exact pr_ireturn hA rfl rfl (Nat.zero_le _) (Nat.zero_le _) dX7_widest_25 ⟨rfl, rfl, rfl, rfl⟩

noncomputable def fx_reachable_r (σ : pr_I) (s : Nat) (u : Int32) : Int32 := (pt_reach_r σ (lkn σ) (nI s) (lk_wu σ u (lkn σ) &&& σ 1 7))
set_option maxRecDepth 100000 in
set_option maxHeartbeats 400000 in
theorem c_fx_reachable {g : pr_C} {l : Launch} (hl : l.stackTraces = false) {T : pr_T} {I : pr_I} {L : pr_L} {w : Nat} {σ : pr_I} {s : Nat} {u : Int32} (hw : pr_W T w) {x v sn f y : Nat} (hx : pr_X7 T x w v sn f y) (hI : wI σ) (hs : s < ndn σ) (hu1 : 0 ≤ u) (hu2 : u ≤ 1000) : pr_M g l 10 0 0 mX7_reachable [.ref x, .int (nI s), .int u] T (ws_put I w σ) L (pr_R (some (.int (fx_reachable_r σ s u))) T (ws_put I w σ) L) pr_no := by
  refine pr_ofG (by decide) rfl hl (Nat.le_of_ble_eq_true rfl) (fun X hA hX hXn hXt => ?_)
  subst hX
  show pr_G g X mX7_reachable.2.2.1 _ 0 0 0 [.ref x, .int (nI s), .int u] [] T (ws_put I w σ) L
  have hl24 := wI_nl24 hI
  have hn5 := wI_n5 hI
  have hr4 := wI_nr4 hI
  have hn12 := wI_nn12 hI
  refine pr_iload_n hA dX7_reachable_0 rfl ?_
  refine pr_aload_n hA dX7_reachable_1 rfl ?_
  refine pr_getR hA f_X7_10 rfl (tx_k hx) (tx_0 hx) dX7_reachable_2 ?_
  refine pr_getE (v := (nI (ndn σ))) hA f_X7_71 rfl (wk_0 hw) (ws_val0.trans (wI_nn hI)) dX7_reachable_5 ?_
  refine pr_callSv hA [.int (nI s), .int (nI (ndn σ))] (c_ri_ok (pr_hl hA) (by omega) (by omega)) s_X7_74 rfl (by decide) (Nat.zero_le _) (Nat.zero_le _) rfl (Nat.le_of_ble_eq_true rfl) dX7_reachable_8 ?_
  refine pr_iload_n hA dX7_reachable_11 rfl ?_
  refine pr_iconst hA (0) dX7_reachable_12 (by decide) ?_
  refine pr_sipush hA (1000) dX7_reachable_13 (by decide) ?_
  refine pr_callSv hA [.int u, .int (0 : Int32), .int (1000 : Int32)] (c_rr_ok (pr_hl hA) hu1 hu2) s_X7_86 rfl (by decide) (Nat.zero_le _) (Nat.zero_le _) rfl (Nat.le_of_ble_eq_true rfl) dX7_reachable_16 ?_
  refine pr_aload_n hA dX7_reachable_19 rfl ?_
  refine pr_getR hA f_X7_10 rfl (tx_k hx) (tx_0 hx) dX7_reachable_20 ?_
  refine pr_getR hA f_X7_206 rfl (wk_0 hw) (wf_0_3 hw) dX7_reachable_23 ?_
  refine pr_aload_n hA dX7_reachable_26 rfl ?_
  refine pr_getR hA f_X7_10 rfl (tx_k hx) (tx_0 hx) dX7_reachable_27 ?_
  refine pr_getR hA f_X7_55 rfl (wk_0 hw) (wf_0_0 hw) dX7_reachable_30 ?_
  refine pr_iload_n hA dX7_reachable_33 rfl ?_
  refine pr_aload_n hA dX7_reachable_34 rfl ?_
  refine pr_getR hA f_X7_10 rfl (tx_k hx) (tx_0 hx) dX7_reachable_35 ?_
  refine pr_getR hA f_X7_55 rfl (wk_0 hw) (wf_0_0 hw) dX7_reachable_38 ?_
  refine pr_iload_n hA dX7_reachable_41 rfl ?_
  refine pr_callVi hA [.int u] (c_withUnits (pr_hl hA) hw (wI_nl hI) (by omega)) v_X7_250 (wk_1 hw) (by decide) rfl rfl rfl (by decide) (Nat.zero_le _) (Nat.zero_le _) rfl (Nat.le_of_ble_eq_true rfl) dX7_reachable_42 ?_
  have hv45 : wI σ := hI
  refine pr_callVi hA [.ref (w + 1), .int (nI s), .int (lk_wu σ u (lkn σ) &&& σ 1 7)] (c_pt_reach (w := w) (σ := σ) (nl := (lkn σ)) (s := (nI s)) (u := (lk_wu σ u (lkn σ) &&& σ 1 7)) (pr_hl hA) hw (wI_nl hv45) (wI_nl24 hv45) (wI_L hv45)) v_X7_256 (wk_116 hw) (by decide) rfl rfl rfl (by decide) (Nat.zero_le _) (Nat.zero_le _) rfl (Nat.le_of_ble_eq_true rfl) dX7_reachable_45 ?_
  exact pr_ireturn hA rfl rfl (Nat.zero_le _) (Nat.zero_le _) dX7_reachable_48 ⟨rfl, rfl, rfl, rfl⟩

noncomputable def fx_criticalLinks_it62 (σ : pr_I) (s : Nat) (t : Nat) (u : Int32) : Nat → Int32
  | 0 => (0 : Int32)
  | k + 1 => ((fx_criticalLinks_it62 σ s t u k) ||| (if (if (((pt_reach_r σ (lkn σ) (nI s) ((lk_wu σ u (lkn σ) &&& σ 1 7) &&& (((1 : Int32) <<< ((nI k) &&& 31)) ^^^ ((-1) : Int32)))) >>> ((nI t) &&& 31)) &&& (1 : Int32)) = 0 then (0 : Int32) else (1 : Int32)) = 0 then ((1 : Int32) <<< ((nI k) &&& 31)) else (0 : Int32)))
noncomputable def fx_criticalLinks_r (σ : pr_I) (s : Nat) (t : Nat) (u : Int32) : Int32 := (if (((pt_reach_r σ (lkn σ) (nI s) (lk_wu σ u (lkn σ) &&& σ 1 7)) >>> ((nI t) &&& 31)) &&& (1 : Int32)) = 0 then (0 : Int32) else (fx_criticalLinks_it62 σ s t u (lkn σ)))
noncomputable def fx_greatestFlow_r (σ : pr_I) (τ : pr_I) (s : Nat) (t : Nat) : Int32 := (fl_fi_r (fl_av σ τ (lkn τ)) τ (lkn τ) (nI s) (nI t))
noncomputable def fx_greatestFlow (σ : pr_I) (τ : pr_I) (s : Nat) (t : Nat) : pr_I := (fl_fi (fl_av σ τ (lkn τ)) τ (lkn τ) (nI s) (nI t))
set_option maxRecDepth 100000 in
set_option maxHeartbeats 400000 in
theorem c_fx_greatestFlow {g : pr_C} {l : Launch} (hl : l.stackTraces = false) {T : pr_T} {I : pr_I} {L : pr_L} {f v w0 : Nat} {σ : pr_I} {τ : pr_I} {s : Nat} {t : Nat} (hf : pr_Fl T f) {x sn y : Nat} (hx : pr_X7 T x v w0 sn f y) (hv : pr_W T v) (hdis : f + 5 ≤ v ∨ v + 121 ≤ f) (hI : fl_I σ) (hW : wI τ) (hs : s < ndn τ) (ht : t < ndn τ) (hst : s ≠ t) : pr_M g l 11 0 0 mX7_greatestFlow [.ref x, .int (nI s), .int (nI t)] T (rg_put (ws_put I v τ) f 5 σ) L (pr_R (some (.int (fx_greatestFlow_r σ τ s t))) T (rg_put (ws_put I v τ) f 5 (fx_greatestFlow σ τ s t)) L) pr_no := by
  refine pr_ofG (by decide) rfl hl (Nat.le_of_ble_eq_true rfl) (fun X hA hX hXn hXt => ?_)
  subst hX
  show pr_G g X mX7_greatestFlow.2.2.1 _ 0 0 0 [.ref x, .int (nI s), .int (nI t)] [] T (rg_put (ws_put I v τ) f 5 σ) L
  have hl24 := wI_nl24 hW
  have hn12 := wI_nn12 hW
  have hnl := wI_nl hW
  have hnl24 := hl24
  have hL := wI_L hW (n := lkn τ)
  have hLL := wI_L hW (n := 24)
  have hs1 : vp_in (nI s) 12 := nI_vin (by omega) (by decide)
  have ht1 : vp_in (nI t) 12 := nI_vin (by omega) (by decide)
  refine pr_aload_n hA dX7_greatestFlow_0 rfl ?_
  refine pr_iload_n hA dX7_greatestFlow_1 rfl ?_
  refine pr_iload_n hA dX7_greatestFlow_2 rfl ?_
  refine pr_gI (I' := (ws_put (rg_put I f 5 σ) v τ)) (ws_rg (by omega)) ?_
  refine pr_callVv hA [.int (nI s), .int (nI t)] (c_fx_rp (w := v) (σ := τ) (pr_hl hA) hv hx hW (by omega) (by omega) (by omega)) v_X7_124 (tx_k hx) (by decide) rfl rfl rfl (by decide) (Nat.zero_le _) (Nat.zero_le _) rfl (Nat.le_of_ble_eq_true rfl) dX7_greatestFlow_3 ?_
  refine pr_gI (I' := (rg_put (ws_put I v τ) f 5 σ)) (rg_ws (by omega)) ?_
  refine pr_aload_n hA dX7_greatestFlow_6 rfl ?_
  refine pr_getR hA f_X7_26 rfl (tx_k hx) (tx_3 hx) dX7_greatestFlow_7 ?_
  refine pr_aload_n hA dX7_greatestFlow_10 rfl ?_
  refine pr_getR hA f_X7_10 rfl (tx_k hx) (tx_0 hx) dX7_greatestFlow_11 ?_
  refine pr_getR hA f_X7_55 rfl (wk_0 hv) (wf_0_0 hv) dX7_greatestFlow_14 ?_
  refine pr_callVv hA [.ref (v + 1)] (c_fl_av (pr_hl hA) hf hv hdis hnl hnl24 hL) v_X7_234 (fk_0 hf) (by decide) rfl rfl rfl (by decide) (Nat.zero_le _) (Nat.zero_le _) rfl (Nat.le_of_ble_eq_true rfl) dX7_greatestFlow_17 ?_
  refine pr_aload_n hA dX7_greatestFlow_20 rfl ?_
  refine pr_getR hA f_X7_26 rfl (tx_k hx) (tx_3 hx) dX7_greatestFlow_21 ?_
  refine pr_aload_n hA dX7_greatestFlow_24 rfl ?_
  refine pr_getR hA f_X7_10 rfl (tx_k hx) (tx_0 hx) dX7_greatestFlow_25 ?_
  refine pr_getR hA f_X7_55 rfl (wk_0 hv) (wf_0_0 hv) dX7_greatestFlow_28 ?_
  refine pr_iload_n hA dX7_greatestFlow_31 rfl ?_
  refine pr_iload_n hA dX7_greatestFlow_32 rfl ?_
  refine pr_callVi hA [.ref (v + 1), .int (nI s), .int (nI t)] (c_fl_fi (pr_hl hA) hf hv hdis hnl hnl24 hL (hI.keep (fr_fl_av (by decide)) (fr_fl_av (by decide))) hLL hs1 ht1) v_X7_238 (fk_0 hf) (by decide) rfl rfl rfl (by decide) (Nat.zero_le _) (Nat.zero_le _) rfl (Nat.le_of_ble_eq_true rfl) dX7_greatestFlow_33 ?_
  exact pr_ireturn hA rfl rfl (Nat.zero_le _) (Nat.zero_le _) dX7_greatestFlow_36 ⟨rfl, rfl, rfl, rfl⟩

noncomputable def fx_smallestCut_it42 (σ : pr_I) (τ : pr_I) (s : Nat) (t : Nat) : Nat → Int32
  | 0 => (0 : Int32)
  | k + 1 => ((fx_smallestCut_it42 σ τ s t k) ||| (if (if (fl_is_r (fl_fi (fl_av σ τ (lkn τ)) τ (lkn τ) (nI s) (nI t)) (τ 2 k)) = 0 then (0 : Int32) else (if (fl_is_r (fl_fi (fl_av σ τ (lkn τ)) τ (lkn τ) (nI s) (nI t)) (τ 3 k)) = 0 then (1 : Int32) else (0 : Int32))) = 0 then (0 : Int32) else ((1 : Int32) <<< ((nI k) &&& 31))))
noncomputable def fx_smallestCut_r (σ : pr_I) (τ : pr_I) (s : Nat) (t : Nat) : Int32 := ((fx_smallestCut_it42 σ τ s t (lkn τ)) &&& (τ 1 7))
noncomputable def fx_smallestCut (σ : pr_I) (τ : pr_I) (s : Nat) (t : Nat) : pr_I := (fl_fi (fl_av σ τ (lkn τ)) τ (lkn τ) (nI s) (nI t))
set_option maxRecDepth 100000 in
set_option maxHeartbeats 400000 in
theorem c_fx_smallestCut {g : pr_C} {l : Launch} (hl : l.stackTraces = false) {T : pr_T} {I : pr_I} {L : pr_L} {f v w0 : Nat} {σ : pr_I} {τ : pr_I} {s : Nat} {t : Nat} (hf : pr_Fl T f) {x sn y : Nat} (hx : pr_X7 T x v w0 sn f y) (hv : pr_W T v) (hdis : f + 5 ≤ v ∨ v + 121 ≤ f) (hI : fl_I σ) (hW : wI τ) (hs : s < ndn τ) (ht : t < ndn τ) (hst : s ≠ t) : pr_M g l 11 0 0 mX7_smallestCut [.ref x, .int (nI s), .int (nI t)] T (rg_put (ws_put I v τ) f 5 σ) L (pr_R (some (.int (fx_smallestCut_r σ τ s t))) T (rg_put (ws_put I v τ) f 5 (fx_smallestCut σ τ s t)) L) pr_no := by
  refine pr_ofG (by decide) rfl hl (Nat.le_of_ble_eq_true rfl) (fun X hA hX hXn hXt => ?_)
  subst hX
  show pr_G g X mX7_smallestCut.2.2.1 _ 0 0 0 [.ref x, .int (nI s), .int (nI t), .null, .null, .null] [] T (rg_put (ws_put I v τ) f 5 σ) L
  have hl24 := wI_nl24 hW
  have hn12 := wI_nn12 hW
  have hnl := wI_nl hW
  have hnl24 := hl24
  have hL := wI_L hW (n := lkn τ)
  have hLL := wI_L hW (n := 24)
  have hs1 : vp_in (nI s) 12 := nI_vin (by omega) (by decide)
  have ht1 : vp_in (nI t) 12 := nI_vin (by omega) (by decide)
  refine pr_aload_n hA dX7_smallestCut_0 rfl ?_
  refine pr_iload_n hA dX7_smallestCut_1 rfl ?_
  refine pr_iload_n hA dX7_smallestCut_2 rfl ?_
  refine pr_gI (I' := (ws_put (rg_put I f 5 σ) v τ)) (ws_rg (by omega)) ?_
  refine pr_callVv hA [.int (nI s), .int (nI t)] (c_fx_rp (w := v) (σ := τ) (pr_hl hA) hv hx hW (by omega) (by omega) (by omega)) v_X7_124 (tx_k hx) (by decide) rfl rfl rfl (by decide) (Nat.zero_le _) (Nat.zero_le _) rfl (Nat.le_of_ble_eq_true rfl) dX7_smallestCut_3 ?_
  refine pr_gI (I' := (rg_put (ws_put I v τ) f 5 σ)) (rg_ws (by omega)) ?_
  refine pr_aload_n hA dX7_smallestCut_6 rfl ?_
  refine pr_getR hA f_X7_26 rfl (tx_k hx) (tx_3 hx) dX7_smallestCut_7 ?_
  refine pr_aload_n hA dX7_smallestCut_10 rfl ?_
  refine pr_getR hA f_X7_10 rfl (tx_k hx) (tx_0 hx) dX7_smallestCut_11 ?_
  refine pr_getR hA f_X7_55 rfl (wk_0 hv) (wf_0_0 hv) dX7_smallestCut_14 ?_
  refine pr_callVv hA [.ref (v + 1)] (c_fl_av (pr_hl hA) hf hv hdis hnl hnl24 hL) v_X7_234 (fk_0 hf) (by decide) rfl rfl rfl (by decide) (Nat.zero_le _) (Nat.zero_le _) rfl (Nat.le_of_ble_eq_true rfl) dX7_smallestCut_17 ?_
  refine pr_aload_n hA dX7_smallestCut_20 rfl ?_
  refine pr_getR hA f_X7_26 rfl (tx_k hx) (tx_3 hx) dX7_smallestCut_21 ?_
  refine pr_aload_n hA dX7_smallestCut_24 rfl ?_
  refine pr_getR hA f_X7_10 rfl (tx_k hx) (tx_0 hx) dX7_smallestCut_25 ?_
  refine pr_getR hA f_X7_55 rfl (wk_0 hv) (wf_0_0 hv) dX7_smallestCut_28 ?_
  refine pr_iload_n hA dX7_smallestCut_31 rfl ?_
  refine pr_iload_n hA dX7_smallestCut_32 rfl ?_
  refine pr_callVi hA [.ref (v + 1), .int (nI s), .int (nI t)] (c_fl_fi (pr_hl hA) hf hv hdis hnl hnl24 hL (hI.keep (fr_fl_av (by decide)) (fr_fl_av (by decide))) hLL hs1 ht1) v_X7_238 (fk_0 hf) (by decide) rfl rfl rfl (by decide) (Nat.zero_le _) (Nat.zero_le _) rfl (Nat.le_of_ble_eq_true rfl) dX7_smallestCut_33 ?_
  refine pr_pop hA dX7_smallestCut_36 rfl ?_
  refine pr_iconst hA (0) dX7_smallestCut_37 (by decide) ?_
  refine pr_istore_n (ls' := [_, _, _, _, _, _]) hA dX7_smallestCut_38 (by decide) rfl ?_
  refine pr_iconst hA (nI 0) dX7_smallestCut_39 (by decide) ?_
  refine pr_istore (ls' := [_, _, _, _, _, _]) hA dX7_smallestCut_40 (by decide) rfl ?_
  have lp42 : ∀ (j k : Nat), (lkn τ) - k = j → k ≤ (lkn τ) → pr_G g X mX7_smallestCut.2.2.1 (pr_MQ g X (pr_R (some (.int (fx_smallestCut_r σ τ s t))) T (rg_put (ws_put I v τ) f 5 (fx_smallestCut σ τ s t)) L) pr_no 0 0) 0 0 42 [.ref x, .int (nI s), .int (nI t), .int (fx_smallestCut_it42 σ τ s t k), .int (nI k), .null] [] T (rg_put (ws_put I v τ) f 5 (fl_fi (fl_av σ τ (lkn τ)) τ (lkn τ) (nI s) (nI t))) L := by
    intro j
    induction j using Nat.strongRecOn with | ind j ih42 =>
    intro k hj42 hk42
    refine pr_iload hA dX7_smallestCut_42 rfl ?_
    refine pr_aload_n hA dX7_smallestCut_44 rfl ?_
    refine pr_getR hA f_X7_10 rfl (tx_k hx) (tx_0 hx) dX7_smallestCut_45 ?_
    refine pr_getR hA f_X7_55 rfl (wk_0 hv) (wf_0_0 hv) dX7_smallestCut_48 ?_
    refine pr_getE (v := (nI (lkn τ))) hA f_X7_59 rfl (wk_1 hv) ((rg_outv (by omega)).trans ((ws_val (by decide)).trans (wI_nl hW))) dX7_smallestCut_51 ?_
    refine pr_icmp_ge hA 132 dX7_smallestCut_54 (by decide) (fun c_54 => ?_) (fun c_54 => ?_)
    · have n_54 : (lkn τ) ≤ k := (nI_leI (by omega) (by omega)).mp c_54
      have hex : (lkn τ) = k := by omega
      subst hex
      refine pr_iload_n hA dX7_smallestCut_132 rfl ?_
      refine pr_aload_n hA dX7_smallestCut_133 rfl ?_
      refine pr_getR hA f_X7_10 rfl (tx_k hx) (tx_0 hx) dX7_smallestCut_134 ?_
      refine pr_getR hA f_X7_55 rfl (wk_0 hv) (wf_0_0 hv) dX7_smallestCut_137 ?_
      refine pr_getE (v := (τ 1 7)) hA f_X7_118 rfl (wk_1 hv) ((rg_outv (by omega)).trans (ws_val (by decide))) dX7_smallestCut_140 ?_
      refine pr_iand hA dX7_smallestCut_143 ?_
      exact pr_ireturn hA rfl rfl (Nat.zero_le _) (Nat.zero_le _) dX7_smallestCut_144 ⟨rfl, rfl, rfl, rfl⟩
    · have n_54 : ¬ (lkn τ) ≤ k := fun q => c_54 ((nI_leI (by omega) (by omega)).mpr q)
      refine pr_aload_n hA dX7_smallestCut_57 rfl ?_
      refine pr_getR hA f_X7_26 rfl (tx_k hx) (tx_3 hx) dX7_smallestCut_58 ?_
      refine pr_aload_n hA dX7_smallestCut_61 rfl ?_
      refine pr_getR hA f_X7_10 rfl (tx_k hx) (tx_0 hx) dX7_smallestCut_62 ?_
      refine pr_getR hA f_X7_55 rfl (wk_0 hv) (wf_0_0 hv) dX7_smallestCut_65 ?_
      refine pr_getR hA f_X7_241 rfl (wk_1 hv) (wf_1_0 hv) dX7_smallestCut_68 ?_
      refine pr_iload hA dX7_smallestCut_71 rfl ?_
      refine pr_ialdN (v := (τ 2 k)) hA (wk_2 hv) (by omega) (by omega) ((rg_outv (by omega)).trans (ws_val (by decide))) dX7_smallestCut_73 ?_
      refine pr_callVi hA [.int (τ 2 k)] (c_fl_is (pr_hl hA) hf) v_X7_244 (fk_0 hf) (by decide) rfl rfl rfl (by decide) (Nat.zero_le _) (Nat.zero_le _) rfl (Nat.le_of_ble_eq_true rfl) dX7_smallestCut_74 ?_
      refine pr_join (c := (fl_is_r (fl_fi (fl_av σ τ (lkn τ)) τ (lkn τ) (nI s) (nI t)) (τ 2 k)) = 0) (J := 108) (st := []) (0 : Int32) (if (fl_is_r (fl_fi (fl_av σ τ (lkn τ)) τ (lkn τ) (nI s) (nI t)) (τ 3 k)) = 0 then (1 : Int32) else (0 : Int32)) inferInstance (fun kt kf => ?_) ?_
      · refine pr_if_eq hA 107 dX7_smallestCut_77 (by decide) (fun c_77 => ?_) (fun c_77 => ?_)
        · refine pr_iconst hA (0) dX7_smallestCut_107 (by decide) ?_
          exact kt c_77
        · refine pr_aload_n hA dX7_smallestCut_80 rfl ?_
          refine pr_getR hA f_X7_26 rfl (tx_k hx) (tx_3 hx) dX7_smallestCut_81 ?_
          refine pr_aload_n hA dX7_smallestCut_84 rfl ?_
          refine pr_getR hA f_X7_10 rfl (tx_k hx) (tx_0 hx) dX7_smallestCut_85 ?_
          refine pr_getR hA f_X7_55 rfl (wk_0 hv) (wf_0_0 hv) dX7_smallestCut_88 ?_
          refine pr_getR hA f_X7_247 rfl (wk_1 hv) (wf_1_1 hv) dX7_smallestCut_91 ?_
          refine pr_iload hA dX7_smallestCut_94 rfl ?_
          refine pr_ialdN (v := (τ 3 k)) hA (wk_3 hv) (by omega) (by omega) ((rg_outv (by omega)).trans (ws_val (by decide))) dX7_smallestCut_96 ?_
          refine pr_callVi hA [.int (τ 3 k)] (c_fl_is (pr_hl hA) hf) v_X7_244 (fk_0 hf) (by decide) rfl rfl rfl (by decide) (Nat.zero_le _) (Nat.zero_le _) rfl (Nat.le_of_ble_eq_true rfl) dX7_smallestCut_97 ?_
          refine pr_join (c := (fl_is_r (fl_fi (fl_av σ τ (lkn τ)) τ (lkn τ) (nI s) (nI t)) (τ 3 k)) = 0) (J := 108) (st := []) (1 : Int32) (0 : Int32) inferInstance (fun kt kf => ?_) ?_
          · refine pr_if_ne hA 107 dX7_smallestCut_100 (by decide) (fun c_100 => ?_) (fun c_100 => ?_)
            · refine pr_iconst hA (0) dX7_smallestCut_107 (by decide) ?_
              exact kf c_100
            · refine pr_iconst hA (1) dX7_smallestCut_103 (by decide) ?_
              refine pr_goto hA 108 dX7_smallestCut_104 (by decide) ?_
              exact kt c_100
          · exact kf c_77
      · refine pr_istore (ls' := [_, _, _, _, _, _]) hA dX7_smallestCut_108 (by decide) rfl ?_
        refine pr_iload_n hA dX7_smallestCut_110 rfl ?_
        refine pr_iload hA dX7_smallestCut_111 rfl ?_
        refine pr_join (c := (if (fl_is_r (fl_fi (fl_av σ τ (lkn τ)) τ (lkn τ) (nI s) (nI t)) (τ 2 k)) = 0 then (0 : Int32) else (if (fl_is_r (fl_fi (fl_av σ τ (lkn τ)) τ (lkn τ) (nI s) (nI t)) (τ 3 k)) = 0 then (1 : Int32) else (0 : Int32))) = 0) (J := 124) (st := [.int (fx_smallestCut_it42 σ τ s t k)]) (0 : Int32) ((1 : Int32) <<< ((nI k) &&& 31)) inferInstance (fun kt kf => ?_) ?_
        · refine pr_if_eq hA 123 dX7_smallestCut_113 (by decide) (fun c_113 => ?_) (fun c_113 => ?_)
          · refine pr_iconst hA (0) dX7_smallestCut_123 (by decide) ?_
            exact kt c_113
          · refine pr_iconst hA (1) dX7_smallestCut_116 (by decide) ?_
            refine pr_iload hA dX7_smallestCut_117 rfl ?_
            refine pr_ishl hA dX7_smallestCut_119 ?_
            refine pr_goto hA 124 dX7_smallestCut_120 (by decide) ?_
            exact kf c_113
        · refine pr_ior hA dX7_smallestCut_124 ?_
          refine pr_istore_n (ls' := [_, _, _, _, _, _]) hA dX7_smallestCut_125 (by decide) rfl ?_
          refine pr_iinc (ls' := [_, _, _, _, _, _]) hA (nI (k + 1)) dX7_smallestCut_126 (by decide) rfl (nI_inc _) rfl ?_
          refine pr_goto hA 42 dX7_smallestCut_129 (by decide) ?_
          have hb := ih42 ((lkn τ) - (k + 1)) (by omega) (k + 1) rfl (by omega)
          simp only [fx_smallestCut_it42] at hb
          exact pr_lessL (ls' := [.ref x, .int (nI s), .int (nI t), .int ((fx_smallestCut_it42 σ τ s t k) ||| (if (if (fl_is_r (fl_fi (fl_av σ τ (lkn τ)) τ (lkn τ) (nI s) (nI t)) (τ 2 k)) = 0 then (0 : Int32) else (if (fl_is_r (fl_fi (fl_av σ τ (lkn τ)) τ (lkn τ) (nI s) (nI t)) (τ 3 k)) = 0 then (1 : Int32) else (0 : Int32))) = 0 then (0 : Int32) else ((1 : Int32) <<< ((nI k) &&& 31)))), .int (nI (k + 1)), .null]) ⟨.inr rfl, .inr rfl, .inr rfl, .inr rfl, .inr rfl, .inl rfl, trivial⟩ hb
  exact (lp42 ((lkn τ) - 0) 0 rfl (by omega))

noncomputable def fx_disjointPaths_r (σ : pr_I) (τ : pr_I) (s : Nat) (t : Nat) (u : Int32) : Int32 := (fl_fi_r (fl_one σ (lk_wu τ u (lkn τ) &&& τ 1 7)) τ (lkn τ) (nI s) (nI t))
noncomputable def fx_disjointPaths (σ : pr_I) (τ : pr_I) (s : Nat) (t : Nat) (u : Int32) : pr_I := (fl_fi (fl_one σ (lk_wu τ u (lkn τ) &&& τ 1 7)) τ (lkn τ) (nI s) (nI t))
set_option maxRecDepth 100000 in
set_option maxHeartbeats 400000 in
theorem c_fx_disjointPaths {g : pr_C} {l : Launch} (hl : l.stackTraces = false) {T : pr_T} {I : pr_I} {L : pr_L} {f v w0 : Nat} {σ : pr_I} {τ : pr_I} {s : Nat} {t : Nat} {u : Int32} (hf : pr_Fl T f) {x sn y : Nat} (hx : pr_X7 T x v w0 sn f y) (hv : pr_W T v) (hdis : f + 5 ≤ v ∨ v + 121 ≤ f) (hI : fl_I σ) (hW : wI τ) (hs : s < ndn τ) (ht : t < ndn τ) (hst : s ≠ t) (hu1 : 0 ≤ u) (hu2 : u ≤ 1000) : pr_M g l 11 0 0 mX7_disjointPaths [.ref x, .int (nI s), .int (nI t), .int u] T (rg_put (ws_put I v τ) f 5 σ) L (pr_R (some (.int (fx_disjointPaths_r σ τ s t u))) T (rg_put (ws_put I v τ) f 5 (fx_disjointPaths σ τ s t u)) L) pr_no := by
  refine pr_ofG (by decide) rfl hl (Nat.le_of_ble_eq_true rfl) (fun X hA hX hXn hXt => ?_)
  subst hX
  show pr_G g X mX7_disjointPaths.2.2.1 _ 0 0 0 [.ref x, .int (nI s), .int (nI t), .int u] [] T (rg_put (ws_put I v τ) f 5 σ) L
  have hl24 := wI_nl24 hW
  have hn12 := wI_nn12 hW
  have hnl := wI_nl hW
  have hnl24 := hl24
  have hL := wI_L hW (n := lkn τ)
  have hLL := wI_L hW (n := 24)
  have hs1 : vp_in (nI s) 12 := nI_vin (by omega) (by decide)
  have ht1 : vp_in (nI t) 12 := nI_vin (by omega) (by decide)
  refine pr_aload_n hA dX7_disjointPaths_0 rfl ?_
  refine pr_iload_n hA dX7_disjointPaths_1 rfl ?_
  refine pr_iload_n hA dX7_disjointPaths_2 rfl ?_
  refine pr_gI (I' := (ws_put (rg_put I f 5 σ) v τ)) (ws_rg (by omega)) ?_
  refine pr_callVv hA [.int (nI s), .int (nI t)] (c_fx_rp (w := v) (σ := τ) (pr_hl hA) hv hx hW (by omega) (by omega) (by omega)) v_X7_124 (tx_k hx) (by decide) rfl rfl rfl (by decide) (Nat.zero_le _) (Nat.zero_le _) rfl (Nat.le_of_ble_eq_true rfl) dX7_disjointPaths_3 ?_
  refine pr_gI (I' := (rg_put (ws_put I v τ) f 5 σ)) (rg_ws (by omega)) ?_
  refine pr_iload_n hA dX7_disjointPaths_6 rfl ?_
  refine pr_iconst hA (0) dX7_disjointPaths_7 (by decide) ?_
  refine pr_sipush hA (1000) dX7_disjointPaths_8 (by decide) ?_
  refine pr_callSv hA [.int u, .int (0 : Int32), .int (1000 : Int32)] (c_rr_ok (pr_hl hA) hu1 hu2) s_X7_86 rfl (by decide) (Nat.zero_le _) (Nat.zero_le _) rfl (Nat.le_of_ble_eq_true rfl) dX7_disjointPaths_11 ?_
  refine pr_aload_n hA dX7_disjointPaths_14 rfl ?_
  refine pr_getR hA f_X7_26 rfl (tx_k hx) (tx_3 hx) dX7_disjointPaths_15 ?_
  refine pr_aload_n hA dX7_disjointPaths_18 rfl ?_
  refine pr_getR hA f_X7_10 rfl (tx_k hx) (tx_0 hx) dX7_disjointPaths_19 ?_
  refine pr_getR hA f_X7_55 rfl (wk_0 hv) (wf_0_0 hv) dX7_disjointPaths_22 ?_
  refine pr_iload_n hA dX7_disjointPaths_25 rfl ?_
  refine pr_gI (I' := (ws_put (rg_put I f 5 σ) v τ)) (ws_rg (by omega)) ?_
  refine pr_callVi hA [.int u] (c_withUnits (pr_hl hA) hv (wI_nl hW) (by omega)) v_X7_250 (wk_1 hv) (by decide) rfl rfl rfl (by decide) (Nat.zero_le _) (Nat.zero_le _) rfl (Nat.le_of_ble_eq_true rfl) dX7_disjointPaths_26 ?_
  refine pr_gI (I' := (rg_put (ws_put I v τ) f 5 σ)) (rg_ws (by omega)) ?_
  refine pr_callVv hA [.int (lk_wu τ u (lkn τ) &&& τ 1 7)] (c_fl_one (pr_hl hA) hf) v_X7_253 (fk_0 hf) (by decide) rfl rfl rfl (by decide) (Nat.zero_le _) (Nat.zero_le _) rfl (Nat.le_of_ble_eq_true rfl) dX7_disjointPaths_29 ?_
  refine pr_aload_n hA dX7_disjointPaths_32 rfl ?_
  refine pr_getR hA f_X7_26 rfl (tx_k hx) (tx_3 hx) dX7_disjointPaths_33 ?_
  refine pr_aload_n hA dX7_disjointPaths_36 rfl ?_
  refine pr_getR hA f_X7_10 rfl (tx_k hx) (tx_0 hx) dX7_disjointPaths_37 ?_
  refine pr_getR hA f_X7_55 rfl (wk_0 hv) (wf_0_0 hv) dX7_disjointPaths_40 ?_
  refine pr_iload_n hA dX7_disjointPaths_43 rfl ?_
  refine pr_iload_n hA dX7_disjointPaths_44 rfl ?_
  refine pr_callVi hA [.ref (v + 1), .int (nI s), .int (nI t)] (c_fl_fi (pr_hl hA) hf hv hdis hnl hnl24 hL (hI.keep (fr_fl_one (by decide)) (fr_fl_one (by decide))) hLL hs1 ht1) v_X7_238 (fk_0 hf) (by decide) rfl rfl rfl (by decide) (Nat.zero_le _) (Nat.zero_le _) rfl (Nat.le_of_ble_eq_true rfl) dX7_disjointPaths_45 ?_
  exact pr_ireturn hA rfl rfl (Nat.zero_le _) (Nat.zero_le _) dX7_disjointPaths_48 ⟨rfl, rfl, rfl, rfl⟩

