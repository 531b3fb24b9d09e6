/-! PREDICTIONS -/
theorem wI_lk_cp {σ τ : pr_I} {nl : Nat} (hI : wI σ) (hW : wI τ) (hn : nl ≤ 24) : wI (lk_cp σ τ nl) := by
  unfold lk_cp
  refine wI.rown (wI.rown (wI.rown (wI.rown (wI.rown (wI.row (wI.row (wI.upn (wI.upv hI rfl (nI_vin (by omega) (by decide))) rfl) ?_) ?_) (fun _ => rfl)) (fun _ => rfl)) (fun _ => rfl)) (fun _ => rfl)) (fun _ => rfl)
  · intro k B q; unfold cp_row; split
    · exact hW 2 k B q
    · exact hI 2 k B q
  · intro k B q; unfold cp_row; split
    · exact hW 3 k B q
    · exact hI 3 k B q
theorem wI_tk_cp {σ τ : pr_I} {n : Nat} (hI : wI σ) (hW : wI τ) (hn : n ≤ 500) : wI (tk_cp σ τ n) := by
  unfold tk_cp
  refine wI.rown (wI.rown (wI.rown (wI.rown (wI.rown (wI.rown (wI.row (wI.row (wI.upv hI rfl (nI_vin (by omega) (by decide))) ?_) ?_) (fun _ => rfl)) (fun _ => rfl)) (fun _ => rfl)) (fun _ => rfl)) (fun _ => rfl)) (fun _ => rfl)
  · intro k B q; unfold cp_row; split
    · exact hW 10 k B q
    · exact hI 10 k B q
  · intro k B q; unfold cp_row; split
    · exact hW 11 k B q
    · exact hI 11 k B q
theorem wI_rq_cp {σ τ : pr_I} {nr : Nat} (hI : wI σ) (hW : wI τ) (hn : nr ≤ 40) : wI (rq_cp σ τ nr) := by
  have hc : ∀ (S : pr_I), wI S → ∀ (o : Nat) (m : Nat) (k B : Nat), wB o k = some B → vp_in (cp_row (τ o) (S o) m k) B := fun S hS o m k B q => by
    unfold cp_row; split
    · exact hW o k B q
    · exact hS o k B q
  have h : ∀ k, k ≤ 40 → wI (rq_cp_it265 σ τ nr k) := by
    intro k
    induction k with
    | zero =>
      intro _
      unfold rq_cp_it265
      exact (wI.row (wI.row (wI.rown (wI.rown (wI.rown (wI.rown (wI.rown (wI.rown (wI.rown (wI.rown (wI.rown (wI.rown (wI.rown (wI.row (wI.row (wI.upv hI rfl (nI_vin (by omega) (by decide))) (hc σ hI 19 nr)) (hc σ hI 20 nr)) (fun _ => rfl)) (fun _ => rfl)) (fun _ => rfl)) (fun _ => rfl)) (fun _ => rfl)) (fun _ => rfl)) (fun _ => rfl)) (fun _ => rfl)) (fun _ => rfl)) (fun _ => rfl)) (fun _ => rfl)) (hc σ hI 32 nr)) (hc σ hI 33 nr))
    | succ k ih =>
      intro hk
      have i := ih (by omega)
      unfold rq_cp_it265
      exact (wI.row (wI.row i (hc _ i (35 + k) 11)) (hc _ i (76 + k) 11))
  exact h nr hn
theorem wI_w_cp {σ τ : pr_I} {nl n nr : Nat} (hI : wI σ) (hW : wI τ) (h1 : nl ≤ 24) (h2 : n ≤ 500) (h3 : nr ≤ 40) : wI (w_cp σ τ nl n nr) := by
  unfold w_cp
  exact (wI.upn (wI.upv (wI.rown (wI_rq_cp (wI_tk_cp (wI_lk_cp hI hW h1) hW h2) hW h3) (fun _ => rfl)) rfl (hW 0 6 13 rfl)) rfl)
/-- the names' row of the world at w, laid into the one at v -/
def l_cp (L : pr_L) (w v : Nat) : pr_L := pr_rowl L (v + 120) (cp_row (L (w + 120)) (L (v + 120)) 12)
theorem c_w_cpE {g : pr_C} {l : Launch} (hl : l.stackTraces = false) {T : pr_T} {I : pr_I} {L : pr_L} {w v : Nat} {σ τ : pr_I} (hw : pr_W T w) (hv : pr_W T v) (hdis : v + 121 ≤ w ∨ w + 121 ≤ v) (hW : wI τ) : pr_M g l 3 0 0 mX6_copyFrom [.ref w, .ref v] T (ws_put (ws_put I v τ) w σ) L (pr_R none T (ws_put (ws_put I v τ) w (w_cp σ τ (lkn τ) (tkn τ) (rqn τ))) (l_cp L v w)) pr_no :=
  c_w_cp hl hw hv hdis (wI_nl hW) (wI_nl24 hW) (wI_n hW) (wI_n5 hW) (wI_nr hW) (wI_nr4 hW)
theorem w_mk_40 {σ : pr_I} {s t u q : Int32} (h : ¬ w_mk_r σ s t u q = -2) : w_mk_r σ s t u q = nI (rqn σ) ∧ nI (rqn σ) < nI 40 := by
  unfold w_mk_r at *
  by_cases c : nI (rqn σ) < nI 40
  · rw [if_pos c]; exact ⟨rfl, c⟩
  · rw [if_neg c] at h; exact absurd rfl h
noncomputable def fx_revenueAfter_r (σ : pr_I) (τ : pr_I) (z : Int32) : Int64 := (w_rev_r (w_pt (w_cp σ τ (lkn τ) (tkn τ) (rqn τ)) (((w_cp σ τ (lkn τ) (tkn τ) (rqn τ)) 0 7) + z)))
noncomputable def fx_revenueAfter (σ : pr_I) (τ : pr_I) (z : Int32) : pr_I := (w_pt (w_cp σ τ (lkn τ) (tkn τ) (rqn τ)) (((w_cp σ τ (lkn τ) (tkn τ) (rqn τ)) 0 7) + z))
set_option maxRecDepth 100000 in
set_option maxHeartbeats 400000 in
theorem c_fx_revenueAfter {g : pr_C} {l : Launch} (hl : l.stackTraces = false) {T : pr_T} {I : pr_I} {L : pr_L} {v w : Nat} {σ : pr_I} {τ : pr_I} {z : Int32} (hv : pr_W T v) {x sn f y : Nat} (hx : pr_X7 T x w v sn f y) (hw : pr_W T w) (hdis : v + 121 ≤ w ∨ w + 121 ≤ v) (hI : wI σ) (hW : wI τ) (hz1 : 0 ≤ z) (hz2 : z ≤ 2000) : pr_M g l 11 0 0 mX7_revenueAfter [.ref x, .int z] T (ws_put (ws_put I w τ) v σ) L (pr_R (some (.long (fx_revenueAfter_r σ τ z))) T (ws_put (ws_put I w τ) v (fx_revenueAfter σ τ z)) (l_cp L w v)) pr_no := by
  refine pr_ofG (by decide) rfl hl (Nat.le_of_ble_eq_true rfl) (fun X hA hX hXn hXt => ?_)
  subst hX
  show pr_G g X mX7_revenueAfter.2.2.1 _ 0 0 0 [.ref x, .int z] [] T (ws_put (ws_put I w τ) v σ) L
  have hl24 := wI_nl24 hW
  have hn12 := wI_nn12 hW
  have hr4 := wI_nr4 hW
  refine pr_iload_n hA dX7_revenueAfter_0 rfl ?_
  refine pr_iconst hA (0) dX7_revenueAfter_1 (by decide) ?_
  refine pr_sipush hA (2000) dX7_revenueAfter_2 (by decide) ?_
  refine pr_callSv hA [.int z, .int (0 : Int32), .int (2000 : Int32)] (c_rr_ok (pr_hl hA) hz1 hz2) s_X7_86 rfl (by decide) (Nat.zero_le _) (Nat.zero_le _) rfl (Nat.le_of_ble_eq_true rfl) dX7_revenueAfter_5 ?_
  refine pr_aload_n hA dX7_revenueAfter_8 rfl ?_
  refine pr_getR hA f_X7_16 rfl (tx_k hx) (tx_1 hx) dX7_revenueAfter_9 ?_
  refine pr_aload_n hA dX7_revenueAfter_12 rfl ?_
  refine pr_getR hA f_X7_10 rfl (tx_k hx) (tx_0 hx) dX7_revenueAfter_13 ?_
  refine pr_callVv hA [.ref w] (c_w_cpE (w := v) (v := w) (σ := σ) (τ := τ) (pr_hl hA) hv hw (by omega) hW) v_X7_52 (wk_0 hv) (by decide) rfl rfl rfl (by decide) (Nat.zero_le _) (Nat.zero_le _) rfl (Nat.le_of_ble_eq_true rfl) dX7_revenueAfter_16 ?_
  refine pr_aload_n hA dX7_revenueAfter_19 rfl ?_
  refine pr_getR hA f_X7_16 rfl (tx_k hx) (tx_1 hx) dX7_revenueAfter_20 ?_
  refine pr_aload_n hA dX7_revenueAfter_23 rfl ?_
  refine pr_getR hA f_X7_16 rfl (tx_k hx) (tx_1 hx) dX7_revenueAfter_24 ?_
  refine pr_getE (v := ((w_cp σ τ (lkn τ) (tkn τ) (rqn τ)) 0 7)) hA f_X7_121 rfl (wk_0 hv) ws_val0 dX7_revenueAfter_27 ?_
  refine pr_iload_n hA dX7_revenueAfter_30 rfl ?_
  refine pr_iadd hA dX7_revenueAfter_31 ?_
  have hv32 : wI (w_cp σ τ (lkn τ) (tkn τ) (rqn τ)) := (wI_w_cp hI hW (wI_nl24 hW) (wI_n5 hW) (wI_nr4 hW))
  refine pr_callVv hA [.int (((w_cp σ τ (lkn τ) (tkn τ) (rqn τ)) 0 7) + z)] (c_w_pt (w := v) (σ := (w_cp σ τ (lkn τ) (tkn τ) (rqn τ))) (lat := (((w_cp σ τ (lkn τ) (tkn τ) (rqn τ)) 0 7) + z)) (pr_hl hA) hv hv32) v_X7_157 (wk_0 hv) (by decide) rfl rfl rfl (by decide) (Nat.zero_le _) (Nat.zero_le _) rfl (Nat.le_of_ble_eq_true rfl) dX7_revenueAfter_32 ?_
  refine pr_aload_n hA dX7_revenueAfter_35 rfl ?_
  refine pr_getR hA f_X7_16 rfl (tx_k hx) (tx_1 hx) dX7_revenueAfter_36 ?_
  have hv39 : wI (w_pt (w_cp σ τ (lkn τ) (tkn τ) (rqn τ)) (((w_cp σ τ (lkn τ) (tkn τ) (rqn τ)) 0 7) + z)) := (wI_w_pt (σ := (w_cp σ τ (lkn τ) (tkn τ) (rqn τ))) (wI_w_cp hI hW (wI_nl24 hW) (wI_n5 hW) (wI_nr4 hW)))
  refine pr_callVl hA [] (c_w_rev (w := v) (σ := (w_pt (w_cp σ τ (lkn τ) (tkn τ) (rqn τ)) (((w_cp σ τ (lkn τ) (tkn τ) (rqn τ)) 0 7) + z))) (pr_hl hA) hv hv39) v_X7_185 (wk_0 hv) (by decide) rfl rfl rfl (by decide) (Nat.zero_le _) (Nat.zero_le _) rfl (Nat.le_of_ble_eq_true rfl) dX7_revenueAfter_39 ?_
  exact pr_lreturn hA rfl (Nat.zero_le _) (Nat.zero_le _) dX7_revenueAfter_42 ⟨rfl, rfl, rfl, rfl⟩

noncomputable def fx_stateAfter_r (σ : pr_I) (τ : pr_I) (k : Nat) (z : Int32) : Int32 := ((w_pt (w_cp σ τ (lkn τ) (tkn τ) (rqn τ)) (((w_cp σ τ (lkn τ) (tkn τ) (rqn τ)) 0 7) + z)) 23 k)
noncomputable def fx_stateAfter (σ : pr_I) (τ : pr_I) (k : Nat) (z : Int32) : pr_I := (w_pt (w_cp σ τ (lkn τ) (tkn τ) (rqn τ)) (((w_cp σ τ (lkn τ) (tkn τ) (rqn τ)) 0 7) + z))
set_option maxRecDepth 100000 in
set_option maxHeartbeats 400000 in
theorem c_fx_stateAfter {g : pr_C} {l : Launch} (hl : l.stackTraces = false) {T : pr_T} {I : pr_I} {L : pr_L} {v w : Nat} {σ : pr_I} {τ : pr_I} {k : Nat} {z : Int32} (hv : pr_W T v) {x sn f y : Nat} (hx : pr_X7 T x w v sn f y) (hw : pr_W T w) (hdis : v + 121 ≤ w ∨ w + 121 ≤ v) (hI : wI σ) (hW : wI τ) (hk : k < rqn τ) (hz1 : 0 ≤ z) (hz2 : z ≤ 2000) : pr_M g l 11 0 0 mX7_stateAfter [.ref x, .int (nI k), .int z] T (ws_put (ws_put I w τ) v σ) L (pr_R (some (.int (fx_stateAfter_r σ τ k z))) T (ws_put (ws_put I w τ) v (fx_stateAfter σ τ k z)) (l_cp L w v)) pr_no := by
  refine pr_ofG (by decide) rfl hl (Nat.le_of_ble_eq_true rfl) (fun X hA hX hXn hXt => ?_)
  subst hX
  show pr_G g X mX7_stateAfter.2.2.1 _ 0 0 0 [.ref x, .int (nI k), .int z] [] T (ws_put (ws_put I w τ) v σ) L
  have hl24 := wI_nl24 hW
  have hn12 := wI_nn12 hW
  have hr4 := wI_nr4 hW
  refine pr_iload_n hA dX7_stateAfter_0 rfl ?_
  refine pr_aload_n hA dX7_stateAfter_1 rfl ?_
  refine pr_getR hA f_X7_10 rfl (tx_k hx) (tx_0 hx) dX7_stateAfter_2 ?_
  refine pr_getR hA f_X7_131 rfl (wk_0 hw) (wf_0_2 hw) dX7_stateAfter_5 ?_
  refine pr_getE (v := (nI (rqn τ))) hA f_X7_135 rfl (wk_18 hw) ((ws_outv (by omega)).trans ((ws_val (by decide)).trans (wI_nr hW))) dX7_stateAfter_8 ?_
  refine pr_callSv hA [.int (nI k), .int (nI (rqn τ))] (c_ri_ok (pr_hl hA) (by omega) (by omega)) s_X7_74 rfl (by decide) (Nat.zero_le _) (Nat.zero_le _) rfl (Nat.le_of_ble_eq_true rfl) dX7_stateAfter_11 ?_
  refine pr_iload_n hA dX7_stateAfter_14 rfl ?_
  refine pr_iconst hA (0) dX7_stateAfter_15 (by decide) ?_
  refine pr_sipush hA (2000) dX7_stateAfter_16 (by decide) ?_
  refine pr_callSv hA [.int z, .int (0 : Int32), .int (2000 : Int32)] (c_rr_ok (pr_hl hA) hz1 hz2) s_X7_86 rfl (by decide) (Nat.zero_le _) (Nat.zero_le _) rfl (Nat.le_of_ble_eq_true rfl) dX7_stateAfter_19 ?_
  refine pr_aload_n hA dX7_stateAfter_22 rfl ?_
  refine pr_getR hA f_X7_16 rfl (tx_k hx) (tx_1 hx) dX7_stateAfter_23 ?_
  refine pr_aload_n hA dX7_stateAfter_26 rfl ?_
  refine pr_getR hA f_X7_10 rfl (tx_k hx) (tx_0 hx) dX7_stateAfter_27 ?_
  refine pr_callVv hA [.ref w] (c_w_cpE (w := v) (v := w) (σ := σ) (τ := τ) (pr_hl hA) hv hw (by omega) hW) v_X7_52 (wk_0 hv) (by decide) rfl rfl rfl (by decide) (Nat.zero_le _) (Nat.zero_le _) rfl (Nat.le_of_ble_eq_true rfl) dX7_stateAfter_30 ?_
  refine pr_aload_n hA dX7_stateAfter_33 rfl ?_
  refine pr_getR hA f_X7_16 rfl (tx_k hx) (tx_1 hx) dX7_stateAfter_34 ?_
  refine pr_aload_n hA dX7_stateAfter_37 rfl ?_
  refine pr_getR hA f_X7_16 rfl (tx_k hx) (tx_1 hx) dX7_stateAfter_38 ?_
  refine pr_getE (v := ((w_cp σ τ (lkn τ) (tkn τ) (rqn τ)) 0 7)) hA f_X7_121 rfl (wk_0 hv) ws_val0 dX7_stateAfter_41 ?_
  refine pr_iload_n hA dX7_stateAfter_44 rfl ?_
  refine pr_iadd hA dX7_stateAfter_45 ?_
  have hv46 : wI (w_cp σ τ (lkn τ) (tkn τ) (rqn τ)) := (wI_w_cp hI hW (wI_nl24 hW) (wI_n5 hW) (wI_nr4 hW))
  refine pr_callVv hA [.int (((w_cp σ τ (lkn τ) (tkn τ) (rqn τ)) 0 7) + z)] (c_w_pt (w := v) (σ := (w_cp σ τ (lkn τ) (tkn τ) (rqn τ))) (lat := (((w_cp σ τ (lkn τ) (tkn τ) (rqn τ)) 0 7) + z)) (pr_hl hA) hv hv46) v_X7_157 (wk_0 hv) (by decide) rfl rfl rfl (by decide) (Nat.zero_le _) (Nat.zero_le _) rfl (Nat.le_of_ble_eq_true rfl) dX7_stateAfter_46 ?_
  refine pr_aload_n hA dX7_stateAfter_49 rfl ?_
  refine pr_getR hA f_X7_16 rfl (tx_k hx) (tx_1 hx) dX7_stateAfter_50 ?_
  refine pr_getR hA f_X7_131 rfl (wk_0 hv) (wf_0_2 hv) dX7_stateAfter_53 ?_
  refine pr_getR hA f_X7_141 rfl (wk_18 hv) (wf_18_4 hv) dX7_stateAfter_56 ?_
  refine pr_iload_n hA dX7_stateAfter_59 rfl ?_
  refine pr_ialdN (v := ((w_pt (w_cp σ τ (lkn τ) (tkn τ) (rqn τ)) (((w_cp σ τ (lkn τ) (tkn τ) (rqn τ)) 0 7) + z)) 23 k)) hA (wk_23 hv) (by omega) (by omega) (ws_val (by decide)) dX7_stateAfter_60 ?_
  exact pr_ireturn hA rfl rfl (Nat.zero_le _) (Nat.zero_le _) dX7_stateAfter_61 ⟨rfl, rfl, rfl, rfl⟩

noncomputable def fx_availableAfter_r (σ : pr_I) (τ : pr_I) (k : Nat) (z : Int32) : Int32 := (lk_av (w_pt (w_cp σ τ (lkn τ) (tkn τ) (rqn τ)) (((w_cp σ τ (lkn τ) (tkn τ) (rqn τ)) 0 7) + z)) k)
noncomputable def fx_availableAfter (σ : pr_I) (τ : pr_I) (k : Nat) (z : Int32) : pr_I := (w_pt (w_cp σ τ (lkn τ) (tkn τ) (rqn τ)) (((w_cp σ τ (lkn τ) (tkn τ) (rqn τ)) 0 7) + z))
noncomputable def fx_ticksUntilActive_r (σ : pr_I) (τ : pr_I) (k : Nat) : Int32 := (w_pa_r (w_cp σ τ (lkn τ) (tkn τ) (rqn τ)) k)
noncomputable def fx_ticksUntilActive (σ : pr_I) (τ : pr_I) (k : Nat) : pr_I := (w_pa (w_cp σ τ (lkn τ) (tkn τ) (rqn τ)) k)
set_option maxRecDepth 100000 in
set_option maxHeartbeats 400000 in
theorem c_fx_ticksUntilActive {g : pr_C} {l : Launch} (hl : l.stackTraces = false) {T : pr_T} {I : pr_I} {L : pr_L} {v w : Nat} {σ : pr_I} {τ : pr_I} {k : Nat} (hv : pr_W T v) {x sn f y : Nat} (hx : pr_X7 T x w v sn f y) (hw : pr_W T w) (hdis : v + 121 ≤ w ∨ w + 121 ≤ v) (hI : wI σ) (hW : wI τ) (hk : k < rqn τ) : pr_M g l 11 0 0 mX7_ticksUntilActive [.ref x, .int (nI k)] T (ws_put (ws_put I w τ) v σ) L (pr_R (some (.int (fx_ticksUntilActive_r σ τ k))) T (ws_put (ws_put I w τ) v (fx_ticksUntilActive σ τ k)) (l_cp L w v)) pr_no := by
  refine pr_ofG (by decide) rfl hl (Nat.le_of_ble_eq_true rfl) (fun X hA hX hXn hXt => ?_)
  subst hX
  show pr_G g X mX7_ticksUntilActive.2.2.1 _ 0 0 0 [.ref x, .int (nI k)] [] T (ws_put (ws_put I w τ) v σ) L
  have hl24 := wI_nl24 hW
  have hn12 := wI_nn12 hW
  have hr4 := wI_nr4 hW
  refine pr_iload_n hA dX7_ticksUntilActive_0 rfl ?_
  refine pr_aload_n hA dX7_ticksUntilActive_1 rfl ?_
  refine pr_getR hA f_X7_10 rfl (tx_k hx) (tx_0 hx) dX7_ticksUntilActive_2 ?_
  refine pr_getR hA f_X7_131 rfl (wk_0 hw) (wf_0_2 hw) dX7_ticksUntilActive_5 ?_
  refine pr_getE (v := (nI (rqn τ))) hA f_X7_135 rfl (wk_18 hw) ((ws_outv (by omega)).trans ((ws_val (by decide)).trans (wI_nr hW))) dX7_ticksUntilActive_8 ?_
  refine pr_callSv hA [.int (nI k), .int (nI (rqn τ))] (c_ri_ok (pr_hl hA) (by omega) (by omega)) s_X7_74 rfl (by decide) (Nat.zero_le _) (Nat.zero_le _) rfl (Nat.le_of_ble_eq_true rfl) dX7_ticksUntilActive_11 ?_
  refine pr_aload_n hA dX7_ticksUntilActive_14 rfl ?_
  refine pr_getR hA f_X7_16 rfl (tx_k hx) (tx_1 hx) dX7_ticksUntilActive_15 ?_
  refine pr_aload_n hA dX7_ticksUntilActive_18 rfl ?_
  refine pr_getR hA f_X7_10 rfl (tx_k hx) (tx_0 hx) dX7_ticksUntilActive_19 ?_
  refine pr_callVv hA [.ref w] (c_w_cpE (w := v) (v := w) (σ := σ) (τ := τ) (pr_hl hA) hv hw (by omega) hW) v_X7_52 (wk_0 hv) (by decide) rfl rfl rfl (by decide) (Nat.zero_le _) (Nat.zero_le _) rfl (Nat.le_of_ble_eq_true rfl) dX7_ticksUntilActive_22 ?_
  refine pr_aload_n hA dX7_ticksUntilActive_25 rfl ?_
  refine pr_getR hA f_X7_16 rfl (tx_k hx) (tx_1 hx) dX7_ticksUntilActive_26 ?_
  refine pr_iload_n hA dX7_ticksUntilActive_29 rfl ?_
  have hv30 : wI (w_cp σ τ (lkn τ) (tkn τ) (rqn τ)) := (wI_w_cp hI hW (wI_nl24 hW) (wI_n5 hW) (wI_nr4 hW))
  refine pr_callVi hA [.int (nI k)] (c_w_pa (w := v) (σ := (w_cp σ τ (lkn τ) (tkn τ) (rqn τ))) (r := k) (pr_hl hA) hv hv30 (by omega)) v_X7_259 (wk_0 hv) (by decide) rfl rfl rfl (by decide) (Nat.zero_le _) (Nat.zero_le _) rfl (Nat.le_of_ble_eq_true rfl) dX7_ticksUntilActive_30 ?_
  exact pr_ireturn hA rfl rfl (Nat.zero_le _) (Nat.zero_le _) dX7_ticksUntilActive_33 ⟨rfl, rfl, rfl, rfl⟩

noncomputable def fx_ticksUntilAvailable_r (σ : pr_I) (τ : pr_I) (k : Nat) (u : Int32) : Int32 := (w_pv_r (w_cp σ τ (lkn τ) (tkn τ) (rqn τ)) k u)
noncomputable def fx_ticksUntilAvailable (σ : pr_I) (τ : pr_I) (k : Nat) (u : Int32) : pr_I := (w_pv (w_cp σ τ (lkn τ) (tkn τ) (rqn τ)) k u)
noncomputable def fx_ticksUntilQuiet_r (σ : pr_I) (τ : pr_I) : Int32 := (w_pq_r (w_cp σ τ (lkn τ) (tkn τ) (rqn τ)))
noncomputable def fx_ticksUntilQuiet (σ : pr_I) (τ : pr_I) : pr_I := (w_pq (w_cp σ τ (lkn τ) (tkn τ) (rqn τ)))
set_option maxRecDepth 100000 in
set_option maxHeartbeats 400000 in
theorem c_fx_ticksUntilQuiet {g : pr_C} {l : Launch} (hl : l.stackTraces = false) {T : pr_T} {I : pr_I} {L : pr_L} {v w : Nat} {σ : pr_I} {τ : pr_I} (hv : pr_W T v) {x sn f y : Nat} (hx : pr_X7 T x w v sn f y) (hw : pr_W T w) (hdis : v + 121 ≤ w ∨ w + 121 ≤ v) (hI : wI σ) (hW : wI τ) : pr_M g l 11 0 0 mX7_ticksUntilQuiet [.ref x] T (ws_put (ws_put I w τ) v σ) L (pr_R (some (.int (fx_ticksUntilQuiet_r σ τ))) T (ws_put (ws_put I w τ) v (fx_ticksUntilQuiet σ τ)) (l_cp L w v)) pr_no := by
  refine pr_ofG (by decide) rfl hl (Nat.le_of_ble_eq_true rfl) (fun X hA hX hXn hXt => ?_)
  subst hX
  show pr_G g X mX7_ticksUntilQuiet.2.2.1 _ 0 0 0 [.ref x] [] T (ws_put (ws_put I w τ) v σ) L
  have hl24 := wI_nl24 hW
  have hn12 := wI_nn12 hW
  have hr4 := wI_nr4 hW
  refine pr_aload_n hA dX7_ticksUntilQuiet_0 rfl ?_
  refine pr_getR hA f_X7_16 rfl (tx_k hx) (tx_1 hx) dX7_ticksUntilQuiet_1 ?_
  refine pr_aload_n hA dX7_ticksUntilQuiet_4 rfl ?_
  refine pr_getR hA f_X7_10 rfl (tx_k hx) (tx_0 hx) dX7_ticksUntilQuiet_5 ?_
  refine pr_callVv hA [.ref w] (c_w_cpE (w := v) (v := w) (σ := σ) (τ := τ) (pr_hl hA) hv hw (by omega) hW) v_X7_52 (wk_0 hv) (by decide) rfl rfl rfl (by decide) (Nat.zero_le _) (Nat.zero_le _) rfl (Nat.le_of_ble_eq_true rfl) dX7_ticksUntilQuiet_8 ?_
  refine pr_aload_n hA dX7_ticksUntilQuiet_11 rfl ?_
  refine pr_getR hA f_X7_16 rfl (tx_k hx) (tx_1 hx) dX7_ticksUntilQuiet_12 ?_
  have hv15 : wI (w_cp σ τ (lkn τ) (tkn τ) (rqn τ)) := (wI_w_cp hI hW (wI_nl24 hW) (wI_n5 hW) (wI_nr4 hW))
  refine pr_callVi hA [] (c_w_pq (w := v) (σ := (w_cp σ τ (lkn τ) (tkn τ) (rqn τ))) (pr_hl hA) hv hv15) v_X7_268 (wk_0 hv) (by decide) rfl rfl rfl (by decide) (Nat.zero_le _) (Nat.zero_le _) rfl (Nat.le_of_ble_eq_true rfl) dX7_ticksUntilQuiet_15 ?_
  exact pr_ireturn hA rfl rfl (Nat.zero_le _) (Nat.zero_le _) dX7_ticksUntilQuiet_18 ⟨rfl, rfl, rfl, rfl⟩

noncomputable def fx_activeWithout_r (σ : pr_I) (τ : pr_I) (k : Nat) (z : Int32) : Int32 := (if (if lk_up (w_cp σ τ (lkn τ) (tkn τ) (rqn τ)) k = 0 then (0 : Int32) else 1) = 0 then (rq_cnt_r (w_pt (w_cp σ τ (lkn τ) (tkn τ) (rqn τ)) (((w_cp σ τ (lkn τ) (tkn τ) (rqn τ)) 0 7) + z)) (rqn (w_pt (w_cp σ τ (lkn τ) (tkn τ) (rqn τ)) (((w_cp σ τ (lkn τ) (tkn τ) (rqn τ)) 0 7) + z))) (2 : Int32)) else (rq_cnt_r (w_pt (w_close (w_cp σ τ (lkn τ) (tkn τ) (rqn τ)) (tkn (w_cp σ τ (lkn τ) (tkn τ) (rqn τ))) (rqn (w_cp σ τ (lkn τ) (tkn τ) (rqn τ))) k) (((w_cp σ τ (lkn τ) (tkn τ) (rqn τ)) 0 7) + z)) (rqn (w_pt (w_close (w_cp σ τ (lkn τ) (tkn τ) (rqn τ)) (tkn (w_cp σ τ (lkn τ) (tkn τ) (rqn τ))) (rqn (w_cp σ τ (lkn τ) (tkn τ) (rqn τ))) k) (((w_cp σ τ (lkn τ) (tkn τ) (rqn τ)) 0 7) + z))) (2 : Int32)))
noncomputable def fx_activeWithout (σ : pr_I) (τ : pr_I) (k : Nat) (z : Int32) : pr_I := (if (if lk_up (w_cp σ τ (lkn τ) (tkn τ) (rqn τ)) k = 0 then (0 : Int32) else 1) = 0 then (w_pt (w_cp σ τ (lkn τ) (tkn τ) (rqn τ)) (((w_cp σ τ (lkn τ) (tkn τ) (rqn τ)) 0 7) + z)) else (w_pt (w_close (w_cp σ τ (lkn τ) (tkn τ) (rqn τ)) (tkn (w_cp σ τ (lkn τ) (tkn τ) (rqn τ))) (rqn (w_cp σ τ (lkn τ) (tkn τ) (rqn τ))) k) (((w_cp σ τ (lkn τ) (tkn τ) (rqn τ)) 0 7) + z)))
set_option maxRecDepth 100000 in
set_option maxHeartbeats 400000 in
theorem c_fx_activeWithout {g : pr_C} {l : Launch} (hl : l.stackTraces = false) {T : pr_T} {I : pr_I} {L : pr_L} {v w : Nat} {σ : pr_I} {τ : pr_I} {k : Nat} {z : Int32} (hv : pr_W T v) {x sn f y : Nat} (hx : pr_X7 T x w v sn f y) (hw : pr_W T w) (hdis : v + 121 ≤ w ∨ w + 121 ≤ v) (hI : wI σ) (hW : wI τ) (hk : k < lkn τ) (hz1 : 0 ≤ z) (hz2 : z ≤ 2000) : pr_M g l 11 0 0 mX7_activeWithout [.ref x, .int (nI k), .int z] T (ws_put (ws_put I w τ) v σ) L (pr_R (some (.int (fx_activeWithout_r σ τ k z))) T (ws_put (ws_put I w τ) v (fx_activeWithout σ τ k z)) (l_cp L w v)) pr_no := by
  refine pr_ofG (by decide) rfl hl (Nat.le_of_ble_eq_true rfl) (fun X hA hX hXn hXt => ?_)
  subst hX
  show pr_G g X mX7_activeWithout.2.2.1 _ 0 0 0 [.ref x, .int (nI k), .int z] [] T (ws_put (ws_put I w τ) v σ) L
  have hl24 := wI_nl24 hW
  have hn12 := wI_nn12 hW
  have hr4 := wI_nr4 hW
  refine pr_iload_n hA dX7_activeWithout_0 rfl ?_
  refine pr_aload_n hA dX7_activeWithout_1 rfl ?_
  refine pr_getR hA f_X7_10 rfl (tx_k hx) (tx_0 hx) dX7_activeWithout_2 ?_
  refine pr_getR hA f_X7_55 rfl (wk_0 hw) (wf_0_0 hw) dX7_activeWithout_5 ?_
  refine pr_getE (v := (nI (lkn τ))) hA f_X7_59 rfl (wk_1 hw) ((ws_outv (by omega)).trans ((ws_val (by decide)).trans (wI_nl hW))) dX7_activeWithout_8 ?_
  refine pr_callSv hA [.int (nI k), .int (nI (lkn τ))] (c_ri_ok (pr_hl hA) (by omega) (by omega)) s_X7_74 rfl (by decide) (Nat.zero_le _) (Nat.zero_le _) rfl (Nat.le_of_ble_eq_true rfl) dX7_activeWithout_11 ?_
  refine pr_iload_n hA dX7_activeWithout_14 rfl ?_
  refine pr_iconst hA (0) dX7_activeWithout_15 (by decide) ?_
  refine pr_sipush hA (2000) dX7_activeWithout_16 (by decide) ?_
  refine pr_callSv hA [.int z, .int (0 : Int32), .int (2000 : Int32)] (c_rr_ok (pr_hl hA) hz1 hz2) s_X7_86 rfl (by decide) (Nat.zero_le _) (Nat.zero_le _) rfl (Nat.le_of_ble_eq_true rfl) dX7_activeWithout_19 ?_
  refine pr_aload_n hA dX7_activeWithout_22 rfl ?_
  refine pr_getR hA f_X7_16 rfl (tx_k hx) (tx_1 hx) dX7_activeWithout_23 ?_
  refine pr_aload_n hA dX7_activeWithout_26 rfl ?_
  refine pr_getR hA f_X7_10 rfl (tx_k hx) (tx_0 hx) dX7_activeWithout_27 ?_
  refine pr_callVv hA [.ref w] (c_w_cpE (w := v) (v := w) (σ := σ) (τ := τ) (pr_hl hA) hv hw (by omega) hW) v_X7_52 (wk_0 hv) (by decide) rfl rfl rfl (by decide) (Nat.zero_le _) (Nat.zero_le _) rfl (Nat.le_of_ble_eq_true rfl) dX7_activeWithout_30 ?_
  refine pr_aload_n hA dX7_activeWithout_33 rfl ?_
  refine pr_getR hA f_X7_16 rfl (tx_k hx) (tx_1 hx) dX7_activeWithout_34 ?_
  refine pr_getR hA f_X7_55 rfl (wk_0 hv) (wf_0_0 hv) dX7_activeWithout_37 ?_
  refine pr_iload_n hA dX7_activeWithout_40 rfl ?_
  refine pr_callVi hA [.int (nI k)] (c_isUp (pr_hl hA) hv) v_X7_110 (wk_1 hv) (by decide) rfl rfl rfl (by decide) (Nat.zero_le _) (Nat.zero_le _) rfl (Nat.le_of_ble_eq_true rfl) dX7_activeWithout_41 ?_
  refine pr_if_eq hA 56 dX7_activeWithout_44 (by decide) (fun c_44 => ?_) (fun c_44 => ?_)
  · refine pr_aload_n hA dX7_activeWithout_56 rfl ?_
    refine pr_getR hA f_X7_16 rfl (tx_k hx) (tx_1 hx) dX7_activeWithout_57 ?_
    refine pr_aload_n hA dX7_activeWithout_60 rfl ?_
    refine pr_getR hA f_X7_16 rfl (tx_k hx) (tx_1 hx) dX7_activeWithout_61 ?_
    refine pr_getE (v := ((w_cp σ τ (lkn τ) (tkn τ) (rqn τ)) 0 7)) hA f_X7_121 rfl (wk_0 hv) ws_val0 dX7_activeWithout_64 ?_
    refine pr_iload_n hA dX7_activeWithout_67 rfl ?_
    refine pr_iadd hA dX7_activeWithout_68 ?_
    have hv69 : wI (w_cp σ τ (lkn τ) (tkn τ) (rqn τ)) := (wI_w_cp hI hW (wI_nl24 hW) (wI_n5 hW) (wI_nr4 hW))
    refine pr_callVv hA [.int (((w_cp σ τ (lkn τ) (tkn τ) (rqn τ)) 0 7) + z)] (c_w_pt (w := v) (σ := (w_cp σ τ (lkn τ) (tkn τ) (rqn τ))) (lat := (((w_cp σ τ (lkn τ) (tkn τ) (rqn τ)) 0 7) + z)) (pr_hl hA) hv hv69) v_X7_157 (wk_0 hv) (by decide) rfl rfl rfl (by decide) (Nat.zero_le _) (Nat.zero_le _) rfl (Nat.le_of_ble_eq_true rfl) dX7_activeWithout_69 ?_
    refine pr_aload_n hA dX7_activeWithout_72 rfl ?_
    refine pr_getR hA f_X7_16 rfl (tx_k hx) (tx_1 hx) dX7_activeWithout_73 ?_
    refine pr_getR hA f_X7_131 rfl (wk_0 hv) (wf_0_2 hv) dX7_activeWithout_76 ?_
    refine pr_iconst hA (2) dX7_activeWithout_79 (by decide) ?_
    have hv80 : wI (w_pt (w_cp σ τ (lkn τ) (tkn τ) (rqn τ)) (((w_cp σ τ (lkn τ) (tkn τ) (rqn τ)) 0 7) + z)) := (wI_w_pt (σ := (w_cp σ τ (lkn τ) (tkn τ) (rqn τ))) (wI_w_cp hI hW (wI_nl24 hW) (wI_n5 hW) (wI_nr4 hW)))
    refine pr_callVi hA [.int (2 : Int32)] (c_rq_cnt (w := v) (σ := (w_pt (w_cp σ τ (lkn τ) (tkn τ) (rqn τ)) (((w_cp σ τ (lkn τ) (tkn τ) (rqn τ)) 0 7) + z))) (nr := (rqn (w_pt (w_cp σ τ (lkn τ) (tkn τ) (rqn τ)) (((w_cp σ τ (lkn τ) (tkn τ) (rqn τ)) 0 7) + z)))) (s := (2 : Int32)) (pr_hl hA) hv (wI_nr hv80) (wI_nr4 hv80)) v_X7_172 (wk_18 hv) (by decide) rfl rfl rfl (by decide) (Nat.zero_le _) (Nat.zero_le _) rfl (Nat.le_of_ble_eq_true rfl) dX7_activeWithout_80 ?_
    exact pr_ireturn hA rfl rfl (Nat.zero_le _) (Nat.zero_le _) dX7_activeWithout_83 ⟨(by simp only [fx_activeWithout_r, if_pos c_44]), rfl, (by simp only [fx_activeWithout, if_pos c_44]), rfl⟩
  · refine pr_aload_n hA dX7_activeWithout_47 rfl ?_
    refine pr_getR hA f_X7_16 rfl (tx_k hx) (tx_1 hx) dX7_activeWithout_48 ?_
    refine pr_iload_n hA dX7_activeWithout_51 rfl ?_
    have hv52 : wI (w_cp σ τ (lkn τ) (tkn τ) (rqn τ)) := (wI_w_cp hI hW (wI_nl24 hW) (wI_n5 hW) (wI_nr4 hW))
    refine pr_callVi hA [.int (nI k)] (c_w_close (w := v) (σ := (w_cp σ τ (lkn τ) (tkn τ) (rqn τ))) (n := (tkn (w_cp σ τ (lkn τ) (tkn τ) (rqn τ)))) (nr := (rqn (w_cp σ τ (lkn τ) (tkn τ) (rqn τ)))) (lk := k) (pr_hl hA) hv (wI_n hv52) (wI_n5 hv52) (wI_B hv52) (wI_nr hv52) (wI_nr4 hv52) (by omega)) v_X7_114 (wk_0 hv) (by decide) rfl rfl rfl (by decide) (Nat.zero_le _) (Nat.zero_le _) rfl (Nat.le_of_ble_eq_true rfl) dX7_activeWithout_52 ?_
    refine pr_pop hA dX7_activeWithout_55 rfl ?_
    refine pr_aload_n hA dX7_activeWithout_56 rfl ?_
    refine pr_getR hA f_X7_16 rfl (tx_k hx) (tx_1 hx) dX7_activeWithout_57 ?_
    refine pr_aload_n hA dX7_activeWithout_60 rfl ?_
    refine pr_getR hA f_X7_16 rfl (tx_k hx) (tx_1 hx) dX7_activeWithout_61 ?_
    refine pr_getE (v := ((w_cp σ τ (lkn τ) (tkn τ) (rqn τ)) 0 7)) hA f_X7_121 rfl (wk_0 hv) (ws_val0.trans (congrFun (fr_w_close (by decide)) _)) dX7_activeWithout_64 ?_
    refine pr_iload_n hA dX7_activeWithout_67 rfl ?_
    refine pr_iadd hA dX7_activeWithout_68 ?_
    have hv69 : wI (w_close (w_cp σ τ (lkn τ) (tkn τ) (rqn τ)) (tkn (w_cp σ τ (lkn τ) (tkn τ) (rqn τ))) (rqn (w_cp σ τ (lkn τ) (tkn τ) (rqn τ))) k) := (wI_w_close (σ := (w_cp σ τ (lkn τ) (tkn τ) (rqn τ))) (wI_w_cp hI hW (wI_nl24 hW) (wI_n5 hW) (wI_nr4 hW)))
    refine pr_callVv hA [.int (((w_cp σ τ (lkn τ) (tkn τ) (rqn τ)) 0 7) + z)] (c_w_pt (w := v) (σ := (w_close (w_cp σ τ (lkn τ) (tkn τ) (rqn τ)) (tkn (w_cp σ τ (lkn τ) (tkn τ) (rqn τ))) (rqn (w_cp σ τ (lkn τ) (tkn τ) (rqn τ))) k)) (lat := (((w_cp σ τ (lkn τ) (tkn τ) (rqn τ)) 0 7) + z)) (pr_hl hA) hv hv69) v_X7_157 (wk_0 hv) (by decide) rfl rfl rfl (by decide) (Nat.zero_le _) (Nat.zero_le _) rfl (Nat.le_of_ble_eq_true rfl) dX7_activeWithout_69 ?_
    refine pr_aload_n hA dX7_activeWithout_72 rfl ?_
    refine pr_getR hA f_X7_16 rfl (tx_k hx) (tx_1 hx) dX7_activeWithout_73 ?_
    refine pr_getR hA f_X7_131 rfl (wk_0 hv) (wf_0_2 hv) dX7_activeWithout_76 ?_
    refine pr_iconst hA (2) dX7_activeWithout_79 (by decide) ?_
    have hv80 : wI (w_pt (w_close (w_cp σ τ (lkn τ) (tkn τ) (rqn τ)) (tkn (w_cp σ τ (lkn τ) (tkn τ) (rqn τ))) (rqn (w_cp σ τ (lkn τ) (tkn τ) (rqn τ))) k) (((w_cp σ τ (lkn τ) (tkn τ) (rqn τ)) 0 7) + z)) := (wI_w_pt (σ := (w_close (w_cp σ τ (lkn τ) (tkn τ) (rqn τ)) (tkn (w_cp σ τ (lkn τ) (tkn τ) (rqn τ))) (rqn (w_cp σ τ (lkn τ) (tkn τ) (rqn τ))) k)) (wI_w_close (σ := (w_cp σ τ (lkn τ) (tkn τ) (rqn τ))) (wI_w_cp hI hW (wI_nl24 hW) (wI_n5 hW) (wI_nr4 hW))))
    refine pr_callVi hA [.int (2 : Int32)] (c_rq_cnt (w := v) (σ := (w_pt (w_close (w_cp σ τ (lkn τ) (tkn τ) (rqn τ)) (tkn (w_cp σ τ (lkn τ) (tkn τ) (rqn τ))) (rqn (w_cp σ τ (lkn τ) (tkn τ) (rqn τ))) k) (((w_cp σ τ (lkn τ) (tkn τ) (rqn τ)) 0 7) + z))) (nr := (rqn (w_pt (w_close (w_cp σ τ (lkn τ) (tkn τ) (rqn τ)) (tkn (w_cp σ τ (lkn τ) (tkn τ) (rqn τ))) (rqn (w_cp σ τ (lkn τ) (tkn τ) (rqn τ))) k) (((w_cp σ τ (lkn τ) (tkn τ) (rqn τ)) 0 7) + z)))) (s := (2 : Int32)) (pr_hl hA) hv (wI_nr hv80) (wI_nr4 hv80)) v_X7_172 (wk_18 hv) (by decide) rfl rfl rfl (by decide) (Nat.zero_le _) (Nat.zero_le _) rfl (Nat.le_of_ble_eq_true rfl) dX7_activeWithout_80 ?_
    exact pr_ireturn hA rfl rfl (Nat.zero_le _) (Nat.zero_le _) dX7_activeWithout_83 ⟨(by simp only [fx_activeWithout_r, if_neg c_44]), rfl, (by simp only [fx_activeWithout, if_neg c_44]), rfl⟩

noncomputable def fx_ticksForNew_r (σ : pr_I) (τ : pr_I) (s : Nat) (t : Nat) (u : Int32) : Int32 := (if (w_mk_r (w_cp σ τ (lkn τ) (tkn τ) (rqn τ)) (nI s) (nI t) u (1 : Int32)) = ((-2) : Int32) then ((-2) : Int32) else (w_pa_r (w_mk (w_cp σ τ (lkn τ) (tkn τ) (rqn τ)) (nI s) (nI t) u (1 : Int32)) (rqn (w_cp σ τ (lkn τ) (tkn τ) (rqn τ)))))
noncomputable def fx_ticksForNew (σ : pr_I) (τ : pr_I) (s : Nat) (t : Nat) (u : Int32) : pr_I := (if (w_mk_r (w_cp σ τ (lkn τ) (tkn τ) (rqn τ)) (nI s) (nI t) u (1 : Int32)) = ((-2) : Int32) then (w_mk (w_cp σ τ (lkn τ) (tkn τ) (rqn τ)) (nI s) (nI t) u (1 : Int32)) else (w_pa (w_mk (w_cp σ τ (lkn τ) (tkn τ) (rqn τ)) (nI s) (nI t) u (1 : Int32)) (rqn (w_cp σ τ (lkn τ) (tkn τ) (rqn τ)))))
theorem l_cp_two {L : pr_L} {w v : Nat} (h : w ≠ v) : l_cp (l_cp L w v) w v = l_cp L w v := by
  have e1 : l_cp L w v (w + 120) = L (w + 120) := pr_rowl_ne (by omega)
  have e2 : l_cp L w v (v + 120) = cp_row (L (w + 120)) (L (v + 120)) 12 := pr_rowl_eq
  show pr_rowl (l_cp L w v) (v + 120) (cp_row (l_cp L w v (w + 120)) (l_cp L w v (v + 120)) 12) = l_cp L w v
  rw [e1, e2]
  have e3 : cp_row (L (w + 120)) (cp_row (L (w + 120)) (L (v + 120)) 12) 12 = cp_row (L (w + 120)) (L (v + 120)) 12 := by
    funext j; unfold cp_row; by_cases c : j < 12 <;> simp [c]
  rw [e3]; exact lr_two
def gw : Nat → Int32
  | 0 => 0
  | j + 1 => Int32.ofNat (2 ^ j)
theorem gw_f : ∀ j, j < 10 → ¬ gw (j + 1) < 1 ∧ gw (j + 1) / 2 = gw j := by decide
theorem gw_1 {j : Nat} (h : j ≤ 10) (c : gw j < 1) : j = 0 := by
  cases j with
  | zero => rfl
  | succ j => exact absurd c (gw_f j (by omega)).1
theorem gw_2 {j : Nat} (c : ¬ gw j < 1) : 0 < j := by
  cases j with
  | zero => exact absurd (show gw 0 < 1 by decide) c
  | succ j => omega
theorem gw_d {j : Nat} (h : j ≤ 10) (c : ¬ gw j < 1) : gw j / 2 = gw (j - 1) := by
  have := gw_2 c
  obtain ⟨i, rfl⟩ : ∃ i, j = i + 1 := ⟨j - 1, by omega⟩
  exact (gw_f i (by omega)).2
noncomputable def wcp (σ τ : pr_I) : pr_I := w_cp σ τ (lkn τ) (tkn τ) (rqn τ)
noncomputable def gn_rl (τ : pr_I) (s t : Nat) : Nat → pr_I → pr_I × Int32
  | 0, σ1 => (σ1, -1)
  | j + 1, σ1 => if w_mk_r (wcp σ1 τ) (nI s) (nI t) (gw (j + 1)) 1 = -2 then (w_mk (wcp σ1 τ) (nI s) (nI t) (gw (j + 1)) 1, -2) else if w_pa_r (w_mk (wcp σ1 τ) (nI s) (nI t) (gw (j + 1)) 1) (rqn (wcp σ1 τ)) = -1 then gn_rl τ s t j (w_pa (w_mk (wcp σ1 τ) (nI s) (nI t) (gw (j + 1)) 1) (rqn (wcp σ1 τ))) else (w_pa (w_mk (wcp σ1 τ) (nI s) (nI t) (gw (j + 1)) 1) (rqn (wcp σ1 τ)), gw (j + 1))
theorem gn_eq {τ : pr_I} {s t j : Nat} {σ1 : pr_I} (h : 0 < j) : gn_rl τ s t j σ1 = if w_mk_r (wcp σ1 τ) (nI s) (nI t) (gw j) 1 = -2 then (w_mk (wcp σ1 τ) (nI s) (nI t) (gw j) 1, -2) else if w_pa_r (w_mk (wcp σ1 τ) (nI s) (nI t) (gw j) 1) (rqn (wcp σ1 τ)) = -1 then gn_rl τ s t (j - 1) (w_pa (w_mk (wcp σ1 τ) (nI s) (nI t) (gw j) 1) (rqn (wcp σ1 τ))) else (w_pa (w_mk (wcp σ1 τ) (nI s) (nI t) (gw j) 1) (rqn (wcp σ1 τ)), gw j) := by
  obtain ⟨i, rfl⟩ : ∃ i, j = i + 1 := ⟨j - 1, by omega⟩
  rfl
noncomputable def fx_greatestNew_r (σ τ : pr_I) (s t : Nat) : Int32 := (gn_rl τ s t (sl 10) σ).2
noncomputable def fx_greatestNew (σ τ : pr_I) (s t : Nat) : pr_I := (gn_rl τ s t (sl 10) σ).1
set_option maxRecDepth 100000 in
set_option maxHeartbeats 400000 in
theorem c_fx_greatestNew {g : pr_C} {l : Launch} (hl : l.stackTraces = false) {T : pr_T} {I : pr_I} {L : pr_L} {v w : Nat} {σ τ : pr_I} {s t : Nat} (hv : pr_W T v) {x sn f y : Nat} (hx : pr_X7 T x w v sn f y) (hw : pr_W T w) (hdis : v + 121 ≤ w ∨ w + 121 ≤ v) (hI : wI σ) (hW : wI τ) (hs : s < ndn τ) (ht : t < ndn τ) (hst : s ≠ t) : pr_M g l 12 0 0 mX7_greatestNew [.ref x, .int (nI s), .int (nI t)] T (ws_put (ws_put I w τ) v σ) L (pr_R (some (.int (fx_greatestNew_r σ τ s t))) T (ws_put (ws_put I w τ) v (fx_greatestNew σ τ s t)) (l_cp L w v)) pr_no := by
  refine pr_ofG (by decide) rfl hl (Nat.le_of_ble_eq_true rfl) (fun X hA hX hXn hXt => ?_)
  subst hX
  show pr_G g X mX7_greatestNew.2.2.1 _ 0 0 0 [.ref x, .int (nI s), .int (nI t), .null, .null] [] T (ws_put (ws_put I w τ) v σ) L
  have hl24 := wI_nl24 hW
  have hn12 := wI_nn12 hW
  have hr4 := wI_nr4 hW
  have hs1 : vp_in (nI s) 12 := nI_vin (by omega) (by decide)
  have ht1 : vp_in (nI t) 12 := nI_vin (by omega) (by decide)
  have hsl := sl_eq 10
  have hwv : w ≠ v := by omega
  obtain ⟨R, hR0⟩ : ∃ R, gn_rl τ s t (sl 10) σ = R := ⟨_, rfl⟩
  refine pr_aload_n hA dX7_greatestNew_0 rfl ?_
  refine pr_iload_n hA dX7_greatestNew_1 rfl ?_
  refine pr_iload_n hA dX7_greatestNew_2 rfl ?_
  refine pr_gI (I' := (ws_put (ws_put I v σ) w τ)) (ws_swap (by omega)) ?_
  refine pr_callVv hA [.int (nI s), .int (nI t)] (c_fx_rp (w := w) (σ := τ) (pr_hl hA) hw hx hW (by omega) (by omega) (by omega)) v_X7_124 (tx_k hx) (by decide) rfl rfl rfl (by decide) (Nat.zero_le _) (Nat.zero_le _) rfl (Nat.le_of_ble_eq_true rfl) dX7_greatestNew_3 ?_
  refine pr_gI (I' := (ws_put (ws_put I w τ) v σ)) (ws_swap (by omega)) ?_
  refine pr_sipush hA (512) dX7_greatestNew_6 (by decide) ?_
  refine pr_istore_n (ls' := [_, _, _, _, _]) hA dX7_greatestNew_9 (by decide) rfl ?_
  have lp10 : ∀ (j : Nat) (σ1 : pr_I) (L1 : pr_L), j ≤ 10 → wI σ1 → l_cp L1 w v = l_cp L w v → (j = 0 → L1 = l_cp L w v) → gn_rl τ s t j σ1 = R → pr_G g X mX7_greatestNew.2.2.1 (pr_MQ g X (pr_R (some (.int (fx_greatestNew_r σ τ s t))) T (ws_put (ws_put I w τ) v (fx_greatestNew σ τ s t)) (l_cp L w v)) pr_no 0 0) 0 0 10 [.ref x, .int (nI s), .int (nI t), .int (gw j), .null] [] T (ws_put (ws_put I w τ) v σ1) L1 := by
    intro j
    induction j using Nat.strongRecOn with | ind j ih =>
    intro σ1 L1 hj hI hL hE hR
    refine pr_iload_n hA dX7_greatestNew_10 rfl ?_
    refine pr_iconst hA (1) dX7_greatestNew_11 (by decide) ?_
    refine pr_icmp_lt hA 71 dX7_greatestNew_12 (by decide) (fun c_12 => ?_) (fun c_12 => ?_)
    · refine pr_iconst hA ((-1)) dX7_greatestNew_71 (by decide) ?_
      have hj0 := gw_1 hj c_12
      subst hj0
      rw [hE rfl]
      simp only [gn_rl] at hR
      exact pr_ireturn hA rfl rfl (Nat.zero_le _) (Nat.zero_le _) dX7_greatestNew_72 ⟨by rw [fx_greatestNew_r, hR0, ← hR], rfl, by rw [fx_greatestNew, hR0, ← hR], rfl⟩
    · refine pr_aload_n hA dX7_greatestNew_15 rfl ?_
      refine pr_getR hA f_X7_16 rfl (tx_k hx) (tx_1 hx) dX7_greatestNew_16 ?_
      refine pr_aload_n hA dX7_greatestNew_19 rfl ?_
      refine pr_getR hA f_X7_10 rfl (tx_k hx) (tx_0 hx) dX7_greatestNew_20 ?_
      refine pr_callVv hA [.ref w] (c_w_cpE (w := v) (v := w) (σ := σ1) (τ := τ) (pr_hl hA) hv hw (by omega) hW) v_X7_52 (wk_0 hv) (by decide) rfl rfl rfl (by decide) (Nat.zero_le _) (Nat.zero_le _) rfl (Nat.le_of_ble_eq_true rfl) dX7_greatestNew_23 ?_
      refine pr_aload_n hA dX7_greatestNew_26 rfl ?_
      refine pr_getR hA f_X7_16 rfl (tx_k hx) (tx_1 hx) dX7_greatestNew_27 ?_
      refine pr_iload_n hA dX7_greatestNew_30 rfl ?_
      refine pr_iload_n hA dX7_greatestNew_31 rfl ?_
      refine pr_iload_n hA dX7_greatestNew_32 rfl ?_
      refine pr_iconst hA (1) dX7_greatestNew_33 (by decide) ?_
      have hv34 : wI (w_cp σ1 τ (lkn τ) (tkn τ) (rqn τ)) := (wI_w_cp hI hW (wI_nl24 hW) (wI_n5 hW) (wI_nr4 hW))
      refine pr_callVi hA [.int (nI s), .int (nI t), .int (gw j), .int (1 : Int32)] (c_w_mk (w := v) (σ := (w_cp σ1 τ (lkn τ) (tkn τ) (rqn τ))) (s := (nI s)) (t := (nI t)) (u := (gw j)) (q := (1 : Int32)) (pr_hl hA) hv hv34 hs1 ht1) v_X7_127 (wk_0 hv) (by decide) rfl rfl rfl (by decide) (Nat.zero_le _) (Nat.zero_le _) rfl (Nat.le_of_ble_eq_true rfl) dX7_greatestNew_34 ?_
      refine pr_istore (ls' := [_, _, _, _, _]) hA dX7_greatestNew_37 (by decide) rfl ?_
      refine pr_iload hA dX7_greatestNew_39 rfl ?_
      refine pr_bipush hA ((-2)) dX7_greatestNew_41 (by decide) ?_
      refine pr_icmp_ne hA 49 dX7_greatestNew_43 (by decide) (fun c_43 => ?_) (fun c_43 => ?_)
      · refine pr_aload_n hA dX7_greatestNew_49 rfl ?_
        refine pr_getR hA f_X7_16 rfl (tx_k hx) (tx_1 hx) dX7_greatestNew_50 ?_
        refine pr_iload hA dX7_greatestNew_53 rfl ?_
        rw [show (w_mk_r (w_cp σ1 τ (lkn τ) (tkn τ) (rqn τ)) (nI s) (nI t) (gw j) (1 : Int32)) = (nI (rqn (w_cp σ1 τ (lkn τ) (tkn τ) (rqn τ)))) from (w_mk_40 c_43).1]
        have hv55 : wI (w_mk (w_cp σ1 τ (lkn τ) (tkn τ) (rqn τ)) (nI s) (nI t) (gw j) (1 : Int32)) := (wI_w_mk (σ := (w_cp σ1 τ (lkn τ) (tkn τ) (rqn τ))) hs1 ht1 (wI_w_cp hI hW (wI_nl24 hW) (wI_n5 hW) (wI_nr4 hW)))
        refine pr_callVi hA [.int (nI (rqn (w_cp σ1 τ (lkn τ) (tkn τ) (rqn τ))))] (c_w_pa (w := v) (σ := (w_mk (w_cp σ1 τ (lkn τ) (tkn τ) (rqn τ)) (nI s) (nI t) (gw j) (1 : Int32))) (r := (rqn (w_cp σ1 τ (lkn τ) (tkn τ) (rqn τ)))) (pr_hl hA) hv hv55 ((nI_ltI (by have := wI_nr4 (wI_w_cp hI hW (wI_nl24 hW) (wI_n5 hW) (wI_nr4 hW)); omega) (by decide)).mp (w_mk_40 c_43).2)) v_X7_259 (wk_0 hv) (by decide) rfl rfl rfl (by decide) (Nat.zero_le _) (Nat.zero_le _) rfl (Nat.le_of_ble_eq_true rfl) dX7_greatestNew_55 ?_
        refine pr_iconst hA ((-1)) dX7_greatestNew_58 (by decide) ?_
        refine pr_icmp_eq hA 64 dX7_greatestNew_59 (by decide) (fun c_59 => ?_) (fun c_59 => ?_)
        · refine pr_iload_n hA dX7_greatestNew_64 rfl ?_
          refine pr_iconst hA (2) dX7_greatestNew_65 (by decide) ?_
          refine pr_idiv hA dX7_greatestNew_66 (by decide) ?_
          rw [show ((gw j) / (2 : Int32)) = (gw (j - 1)) from (gw_d hj c_12)]
          refine pr_istore_n (ls' := [_, _, _, _, _]) hA dX7_greatestNew_67 (by decide) rfl ?_
          refine pr_goto hA 10 dX7_greatestNew_68 (by decide) ?_
          rw [gn_eq (gw_2 c_12)] at hR
          unfold wcp at hR
          simp only [if_neg c_43, if_pos c_59] at hR
          exact pr_lessL (ls' := [.ref x, .int (nI s), .int (nI t), .int (gw (j - 1)), .null]) ⟨.inr rfl, .inr rfl, .inr rfl, .inr rfl, .inl rfl, trivial⟩ (ih (j - 1) (by have := gw_2 c_12; omega) _ _ (by omega) (wI_w_pa (wI_w_mk hs1 ht1 (wI_w_cp hI hW (wI_nl24 hW) (wI_n5 hW) (wI_nr4 hW)))) ((congrArg (fun z => l_cp z w v) hL).trans (l_cp_two hwv)) (fun _ => hL) hR)
        · refine pr_iload_n hA dX7_greatestNew_62 rfl ?_
          rw [gn_eq (gw_2 c_12)] at hR
          unfold wcp at hR
          rw [hL]
          simp only [if_neg c_43, if_neg c_59] at hR
          exact pr_ireturn hA rfl rfl (Nat.zero_le _) (Nat.zero_le _) dX7_greatestNew_63 ⟨by rw [fx_greatestNew_r, hR0, ← hR], rfl, by rw [fx_greatestNew, hR0, ← hR], rfl⟩
      · refine pr_bipush hA ((-2)) dX7_greatestNew_46 (by decide) ?_
        rw [gn_eq (gw_2 c_12)] at hR
        unfold wcp at hR
        rw [hL]
        simp only [if_pos c_43] at hR
        exact pr_ireturn hA rfl rfl (Nat.zero_le _) (Nat.zero_le _) dX7_greatestNew_48 ⟨by rw [fx_greatestNew_r, hR0, ← hR], rfl, by rw [fx_greatestNew, hR0, ← hR], rfl⟩
  exact (by have h0 := lp10 (sl 10) _ _ (by omega) hI rfl (fun h => by omega) hR0; rw [show gw (sl 10) = (512 : Int32) from by rw [sl_eq]; decide] at h0; exact h0)

