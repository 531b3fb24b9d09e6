theorem nI_r0 {c b : Nat} (h : c ≤ b) (hb : b < 2 ^ 31) : (0 : Int32) ≤ nI c ∧ nI c ≤ nI b := ⟨nI_pos' (by omega), (nI_leI (by omega) hb).mpr h⟩
/-- the class' object, over its parts -/
def pr_X7 (T : pr_T) (x w v s f y : Nat) : Prop := T.2.1 x = (7, 0) ∧ T.2.2 x 0 = some w ∧ T.2.2 x 1 = some v ∧ T.2.2 x 2 = some s ∧ T.2.2 x 3 = some f ∧ T.2.2 x 4 = some y
section TX
variable {T : pr_T} {x w v s f y : Nat}
theorem tx_k (h : pr_X7 T x w v s f y) : T.2.1 x = (7, 0) := h.1
theorem tx_0 (h : pr_X7 T x w v s f y) : T.2.2 x 0 = some w := h.2.1
theorem tx_1 (h : pr_X7 T x w v s f y) : T.2.2 x 1 = some v := h.2.2.1
theorem tx_2 (h : pr_X7 T x w v s f y) : T.2.2 x 2 = some s := h.2.2.2.1
theorem tx_3 (h : pr_X7 T x w v s f y) : T.2.2 x 3 = some f := h.2.2.2.2.1
theorem tx_4 (h : pr_X7 T x w v s f y) : T.2.2 x 4 = some y := h.2.2.2.2.2
end TX
set_option maxRecDepth 100000 in
set_option maxHeartbeats 400000 in
theorem c_ri_ok {g : pr_C} {l : Launch} (hl : l.stackTraces = false) {T : pr_T} {I : pr_I} {L : pr_L} {k n : Nat} (hk : k < n) (hn : n < 2 ^ 31) : pr_M g l 1 0 0 mX7_requireIndex [.int (nI k), .int (nI n)] T I L (pr_R none T I L) pr_no := by
  refine pr_ofG (by decide) rfl hl (Nat.le_of_ble_eq_true rfl) (fun X hA hX hXn hXt => ?_)
  subst hX
  show pr_G g X mX7_requireIndex.2.2.1 _ 0 0 0 [.int (nI k), .int (nI n)] [] T I L
  refine pr_iload_n hA dX7_requireIndex_0 rfl ?_
  refine pr_if_lt hA 9 dX7_requireIndex_1 (by decide) (fun c_1 => ?_) (fun c_1 => ?_)
  · exact absurd c_1 (nI_pos (by omega))
  · refine pr_iload_n hA dX7_requireIndex_4 rfl ?_
    refine pr_iload_n hA dX7_requireIndex_5 rfl ?_
    refine pr_icmp_lt hA 20 dX7_requireIndex_6 (by decide) (fun c_6 => ?_) (fun c_6 => ?_)
    · have n_6 : k < n := (nI_ltI (by omega) (by omega)).mp c_6
      exact pr_return hA rfl (Nat.zero_le _) (Nat.zero_le _) dX7_requireIndex_20 ⟨rfl, rfl, rfl, rfl⟩
    · exact absurd ((nI_ltI (by omega) (by omega)).mpr hk) (Int32.not_lt.mpr (by first | exact c_6 | exact Int32.not_lt.mp c_6))

set_option maxRecDepth 100000 in
set_option maxHeartbeats 400000 in
theorem c_rr_ok {g : pr_C} {l : Launch} (hl : l.stackTraces = false) {T : pr_T} {I : pr_I} {L : pr_L} {a lo hi : Int32} (h1 : lo ≤ a) (h2 : a ≤ hi) : pr_M g l 1 0 0 mX7_requireRange [.int a, .int lo, .int hi] T I L (pr_R none T I L) pr_no := by
  refine pr_ofG (by decide) rfl hl (Nat.le_of_ble_eq_true rfl) (fun X hA hX hXn hXt => ?_)
  subst hX
  show pr_G g X mX7_requireRange.2.2.1 _ 0 0 0 [.int a, .int lo, .int hi] [] T I L
  refine pr_iload_n hA dX7_requireRange_0 rfl ?_
  refine pr_iload_n hA dX7_requireRange_1 rfl ?_
  refine pr_icmp_lt hA 10 dX7_requireRange_2 (by decide) (fun c_2 => ?_) (fun c_2 => ?_)
  · exact absurd h1 (Int32.not_le.mpr (by first | exact c_2 | exact Int32.not_le.mp c_2))
  · refine pr_iload_n hA dX7_requireRange_5 rfl ?_
    refine pr_iload_n hA dX7_requireRange_6 rfl ?_
    refine pr_icmp_le hA 21 dX7_requireRange_7 (by decide) (fun c_7 => ?_) (fun c_7 => ?_)
    · exact pr_return hA rfl (Nat.zero_le _) (Nat.zero_le _) dX7_requireRange_21 ⟨rfl, rfl, rfl, rfl⟩
    · exact absurd h2 (by first | exact c_7 | exact Int32.not_le.mpr c_7)

noncomputable def rq_nw_rl5 (σ : pr_I) (nr : Nat) (s : Int32) (i : Int32) : Nat → Nat → Int32 → Int32
  | 0, _, _ => 0
  | j + 1, k, x3 => (if (nI nr) ≤ (nI k) then ((-1) : Int32) else (if (σ 23 k) = s then (if x3 = i then (nI k) else (rq_nw_rl5 σ nr s i j (k + 1) (x3 + Int32.ofInt (1)))) else (rq_nw_rl5 σ nr s i j (k + 1) x3)))
noncomputable def rq_nw_r (σ : pr_I) (nr : Nat) (s : Int32) (i : Int32) : Int32 := (rq_nw_rl5 σ nr s i (nr + 1) 0 (0 : Int32))
noncomputable def fx_nodeCount_r (σ : pr_I) : Int32 := (nI (ndn σ))
noncomputable def fx_linkCount_r (σ : pr_I) : Int32 := (nI (lkn σ))
noncomputable def fx_linkValue_r (σ : pr_I) (k : Nat) (c : Nat) : Int32 := (lk_val σ k c)
set_option maxRecDepth 100000 in
set_option maxHeartbeats 400000 in
theorem c_fx_linkValue {g : pr_C} {l : Launch} (hl : l.stackTraces = false) {T : pr_T} {I : pr_I} {L : pr_L} {w : Nat} {σ : pr_I} {k : Nat} {c : Nat} (hw : pr_W T w) {x v sn f y : Nat} (hx : pr_X7 T x w v sn f y) (hI : wI σ) (hk : k < lkn σ) (hc : c ≤ 8) : pr_M g l 8 0 0 mX7_linkValue [.ref x, .int (nI k), .int (nI c)] T (ws_put I w σ) L (pr_R (some (.int (fx_linkValue_r σ k c))) T (ws_put I w σ) L) pr_no := by
  refine pr_ofG (by decide) rfl hl (Nat.le_of_ble_eq_true rfl) (fun X hA hX hXn hXt => ?_)
  subst hX
  show pr_G g X mX7_linkValue.2.2.1 _ 0 0 0 [.ref x, .int (nI k), .int (nI c)] [] T (ws_put I w σ) L
  have hl24 := wI_nl24 hI
  have hn5 := wI_n5 hI
  have hr4 := wI_nr4 hI
  have hn12 := wI_nn12 hI
  refine pr_iload_n hA dX7_linkValue_0 rfl ?_
  refine pr_aload_n hA dX7_linkValue_1 rfl ?_
  refine pr_getR hA f_X7_10 rfl (tx_k hx) (tx_0 hx) dX7_linkValue_2 ?_
  refine pr_getR hA f_X7_55 rfl (wk_0 hw) (wf_0_0 hw) dX7_linkValue_5 ?_
  refine pr_getE (v := (nI (lkn σ))) hA f_X7_59 rfl (wk_1 hw) ((ws_val (by decide)).trans (wI_nl hI)) dX7_linkValue_8 ?_
  refine pr_callSv hA [.int (nI k), .int (nI (lkn σ))] (c_ri_ok (pr_hl hA) (by omega) (by omega)) s_X7_74 rfl (by decide) (Nat.zero_le _) (Nat.zero_le _) rfl (Nat.le_of_ble_eq_true rfl) dX7_linkValue_11 ?_
  refine pr_iload_n hA dX7_linkValue_14 rfl ?_
  refine pr_iconst hA (0) dX7_linkValue_15 (by decide) ?_
  refine pr_bipush hA (8) dX7_linkValue_16 (by decide) ?_
  refine pr_callSv hA [.int (nI c), .int (0 : Int32), .int (8 : Int32)] (c_rr_ok (pr_hl hA) (nI_r0 (b := 8) (by omega) (by decide)).1 (nI_r0 (b := 8) (by omega) (by decide)).2) s_X7_86 rfl (by decide) (Nat.zero_le _) (Nat.zero_le _) rfl (Nat.le_of_ble_eq_true rfl) dX7_linkValue_18 ?_
  refine pr_aload_n hA dX7_linkValue_21 rfl ?_
  refine pr_getR hA f_X7_10 rfl (tx_k hx) (tx_0 hx) dX7_linkValue_22 ?_
  refine pr_getR hA f_X7_55 rfl (wk_0 hw) (wf_0_0 hw) dX7_linkValue_25 ?_
  refine pr_iload_n hA dX7_linkValue_28 rfl ?_
  refine pr_iload_n hA dX7_linkValue_29 rfl ?_
  refine pr_callVi hA [.int (nI k), .int (nI c)] (c_lkval (pr_hl hA) hw (by omega) (by omega)) v_X7_90 (wk_1 hw) (by decide) rfl rfl rfl (by decide) (Nat.zero_le _) (Nat.zero_le _) rfl (Nat.le_of_ble_eq_true rfl) dX7_linkValue_30 ?_
  exact pr_ireturn hA rfl rfl (Nat.zero_le _) (Nat.zero_le _) dX7_linkValue_33 ⟨rfl, rfl, rfl, rfl⟩

noncomputable def fx_setting_r (σ : pr_I) (c : Nat) : Int32 := (σ 119 c)
noncomputable def fx_setSetting_r (σ : pr_I) (c : Nat) (z : Int32) : Int32 := (σ 119 c)
noncomputable def fx_setSetting (σ : pr_I) (c : Nat) (z : Int32) : pr_I := (pr_up σ 119 c z)
noncomputable def fx_setCapacity_r (σ : pr_I) (k : Nat) (z : Int32) : Int32 := (if (σ 7 k) ≤ z then (σ 4 k) else ((-3) : Int32))
noncomputable def fx_setCapacity (σ : pr_I) (k : Nat) (z : Int32) : pr_I := (if (σ 7 k) ≤ z then (pr_up σ 4 k z) else σ)
set_option maxRecDepth 100000 in
set_option maxHeartbeats 400000 in
theorem c_fx_setCapacity {g : pr_C} {l : Launch} (hl : l.stackTraces = false) {T : pr_T} {I : pr_I} {L : pr_L} {w : Nat} {σ : pr_I} {k : Nat} {z : Int32} (hw : pr_W T w) {x v sn f y : Nat} (hx : pr_X7 T x w v sn f y) (hI : wI σ) (hk : k < lkn σ) (hz1 : 0 ≤ z) (hz2 : z ≤ 1000) : pr_M g l 8 0 0 mX7_setCapacity [.ref x, .int (nI k), .int z] T (ws_put I w σ) L (pr_R (some (.int (fx_setCapacity_r σ k z))) T (ws_put I w (fx_setCapacity σ k z)) L) pr_no := by
  refine pr_ofG (by decide) rfl hl (Nat.le_of_ble_eq_true rfl) (fun X hA hX hXn hXt => ?_)
  subst hX
  show pr_G g X mX7_setCapacity.2.2.1 _ 0 0 0 [.ref x, .int (nI k), .int z, .null] [] T (ws_put I w σ) L
  have hl24 := wI_nl24 hI
  have hn5 := wI_n5 hI
  have hr4 := wI_nr4 hI
  have hn12 := wI_nn12 hI
  refine pr_iload_n hA dX7_setCapacity_0 rfl ?_
  refine pr_aload_n hA dX7_setCapacity_1 rfl ?_
  refine pr_getR hA f_X7_10 rfl (tx_k hx) (tx_0 hx) dX7_setCapacity_2 ?_
  refine pr_getR hA f_X7_55 rfl (wk_0 hw) (wf_0_0 hw) dX7_setCapacity_5 ?_
  refine pr_getE (v := (nI (lkn σ))) hA f_X7_59 rfl (wk_1 hw) ((ws_val (by decide)).trans (wI_nl hI)) dX7_setCapacity_8 ?_
  refine pr_callSv hA [.int (nI k), .int (nI (lkn σ))] (c_ri_ok (pr_hl hA) (by omega) (by omega)) s_X7_74 rfl (by decide) (Nat.zero_le _) (Nat.zero_le _) rfl (Nat.le_of_ble_eq_true rfl) dX7_setCapacity_11 ?_
  refine pr_iload_n hA dX7_setCapacity_14 rfl ?_
  refine pr_iconst hA (0) dX7_setCapacity_15 (by decide) ?_
  refine pr_sipush hA (1000) dX7_setCapacity_16 (by decide) ?_
  refine pr_callSv hA [.int z, .int (0 : Int32), .int (1000 : Int32)] (c_rr_ok (pr_hl hA) hz1 hz2) s_X7_86 rfl (by decide) (Nat.zero_le _) (Nat.zero_le _) rfl (Nat.le_of_ble_eq_true rfl) dX7_setCapacity_19 ?_
  refine pr_aload_n hA dX7_setCapacity_22 rfl ?_
  refine pr_getR hA f_X7_10 rfl (tx_k hx) (tx_0 hx) dX7_setCapacity_23 ?_
  refine pr_getR hA f_X7_55 rfl (wk_0 hw) (wf_0_0 hw) dX7_setCapacity_26 ?_
  refine pr_getR hA f_X7_104 rfl (wk_1 hw) (wf_1_5 hw) dX7_setCapacity_29 ?_
  refine pr_iload_n hA dX7_setCapacity_32 rfl ?_
  refine pr_ialdN (v := (σ 7 k)) hA (wk_7 hw) (by omega) (by omega) (ws_val (by decide)) dX7_setCapacity_33 ?_
  refine pr_iload_n hA dX7_setCapacity_34 rfl ?_
  refine pr_icmp_le hA 41 dX7_setCapacity_35 (by decide) (fun c_35 => ?_) (fun c_35 => ?_)
  · refine pr_aload_n hA dX7_setCapacity_41 rfl ?_
    refine pr_getR hA f_X7_10 rfl (tx_k hx) (tx_0 hx) dX7_setCapacity_42 ?_
    refine pr_getR hA f_X7_55 rfl (wk_0 hw) (wf_0_0 hw) dX7_setCapacity_45 ?_
    refine pr_getR hA f_X7_107 rfl (wk_1 hw) (wf_1_2 hw) dX7_setCapacity_48 ?_
    refine pr_iload_n hA dX7_setCapacity_51 rfl ?_
    refine pr_ialdN (v := (σ 4 k)) hA (wk_4 hw) (by omega) (by omega) (ws_val (by decide)) dX7_setCapacity_52 ?_
    refine pr_istore_n (ls' := [_, _, _, _]) hA dX7_setCapacity_53 (by decide) rfl ?_
    refine pr_aload_n hA dX7_setCapacity_54 rfl ?_
    refine pr_getR hA f_X7_10 rfl (tx_k hx) (tx_0 hx) dX7_setCapacity_55 ?_
    refine pr_getR hA f_X7_55 rfl (wk_0 hw) (wf_0_0 hw) dX7_setCapacity_58 ?_
    refine pr_getR hA f_X7_107 rfl (wk_1 hw) (wf_1_2 hw) dX7_setCapacity_61 ?_
    refine pr_iload_n hA dX7_setCapacity_64 rfl ?_
    refine pr_iload_n hA dX7_setCapacity_65 rfl ?_
    refine pr_iastN (I' := (ws_put I w (pr_up σ 4 k z))) hA (wk_4 hw) (by omega) (by omega) (ws_up (by decide)) dX7_setCapacity_66 ?_
    refine pr_iload_n hA dX7_setCapacity_67 rfl ?_
    exact pr_ireturn hA rfl rfl (Nat.zero_le _) (Nat.zero_le _) dX7_setCapacity_68 ⟨(by simp only [fx_setCapacity_r, if_pos c_35]), rfl, (by simp only [fx_setCapacity, if_pos c_35]), rfl⟩
  · refine pr_bipush hA ((-3)) dX7_setCapacity_38 (by decide) ?_
    exact pr_ireturn hA rfl rfl (Nat.zero_le _) (Nat.zero_le _) dX7_setCapacity_40 ⟨(by simp only [fx_setCapacity_r, if_neg c_35]), rfl, (by simp only [fx_setCapacity, if_neg c_35]), rfl⟩

noncomputable def fx_takeDown_r (σ : pr_I) (k : Nat) : Int32 := (if (if lk_up σ k = 0 then (0 : Int32) else 1) = 0 then ((-3) : Int32) else (w_close_r σ (tkn σ) (rqn σ) k))
noncomputable def fx_takeDown (σ : pr_I) (k : Nat) : pr_I := (if (if lk_up σ k = 0 then (0 : Int32) else 1) = 0 then σ else (w_close σ (tkn σ) (rqn σ) k))
set_option maxRecDepth 100000 in
set_option maxHeartbeats 400000 in
theorem c_fx_takeDown {g : pr_C} {l : Launch} (hl : l.stackTraces = false) {T : pr_T} {I : pr_I} {L : pr_L} {w : Nat} {σ : pr_I} {k : Nat} (hw : pr_W T w) {x v sn f y : Nat} (hx : pr_X7 T x w v sn f y) (hI : wI σ) (hk : k < lkn σ) : pr_M g l 8 0 0 mX7_takeDown [.ref x, .int (nI k)] T (ws_put I w σ) L (pr_R (some (.int (fx_takeDown_r σ k))) T (ws_put I w (fx_takeDown σ k)) L) pr_no := by
  refine pr_ofG (by decide) rfl hl (Nat.le_of_ble_eq_true rfl) (fun X hA hX hXn hXt => ?_)
  subst hX
  show pr_G g X mX7_takeDown.2.2.1 _ 0 0 0 [.ref x, .int (nI k)] [] T (ws_put I w σ) L
  have hl24 := wI_nl24 hI
  have hn5 := wI_n5 hI
  have hr4 := wI_nr4 hI
  have hn12 := wI_nn12 hI
  refine pr_iload_n hA dX7_takeDown_0 rfl ?_
  refine pr_aload_n hA dX7_takeDown_1 rfl ?_
  refine pr_getR hA f_X7_10 rfl (tx_k hx) (tx_0 hx) dX7_takeDown_2 ?_
  refine pr_getR hA f_X7_55 rfl (wk_0 hw) (wf_0_0 hw) dX7_takeDown_5 ?_
  refine pr_getE (v := (nI (lkn σ))) hA f_X7_59 rfl (wk_1 hw) ((ws_val (by decide)).trans (wI_nl hI)) dX7_takeDown_8 ?_
  refine pr_callSv hA [.int (nI k), .int (nI (lkn σ))] (c_ri_ok (pr_hl hA) (by omega) (by omega)) s_X7_74 rfl (by decide) (Nat.zero_le _) (Nat.zero_le _) rfl (Nat.le_of_ble_eq_true rfl) dX7_takeDown_11 ?_
  refine pr_aload_n hA dX7_takeDown_14 rfl ?_
  refine pr_getR hA f_X7_10 rfl (tx_k hx) (tx_0 hx) dX7_takeDown_15 ?_
  refine pr_getR hA f_X7_55 rfl (wk_0 hw) (wf_0_0 hw) dX7_takeDown_18 ?_
  refine pr_iload_n hA dX7_takeDown_21 rfl ?_
  refine pr_callVi hA [.int (nI k)] (c_isUp (pr_hl hA) hw) v_X7_110 (wk_1 hw) (by decide) rfl rfl rfl (by decide) (Nat.zero_le _) (Nat.zero_le _) rfl (Nat.le_of_ble_eq_true rfl) dX7_takeDown_22 ?_
  refine pr_if_eq hA 39 dX7_takeDown_25 (by decide) (fun c_25 => ?_) (fun c_25 => ?_)
  · refine pr_bipush hA ((-3)) dX7_takeDown_39 (by decide) ?_
    exact pr_ireturn hA rfl rfl (Nat.zero_le _) (Nat.zero_le _) dX7_takeDown_41 ⟨(by simp only [fx_takeDown_r, if_pos c_25]), rfl, (by simp only [fx_takeDown, if_pos c_25]), rfl⟩
  · refine pr_aload_n hA dX7_takeDown_28 rfl ?_
    refine pr_getR hA f_X7_10 rfl (tx_k hx) (tx_0 hx) dX7_takeDown_29 ?_
    refine pr_iload_n hA dX7_takeDown_32 rfl ?_
    have hv33 : wI σ := hI
    refine pr_callVi hA [.int (nI k)] (c_w_close (w := w) (σ := σ) (n := (tkn σ)) (nr := (rqn σ)) (lk := k) (pr_hl hA) hw (wI_n hv33) (wI_n5 hv33) (wI_B hv33) (wI_nr hv33) (wI_nr4 hv33) (by omega)) v_X7_114 (wk_0 hw) (by decide) rfl rfl rfl (by decide) (Nat.zero_le _) (Nat.zero_le _) rfl (Nat.le_of_ble_eq_true rfl) dX7_takeDown_33 ?_
    refine pr_goto hA 41 dX7_takeDown_36 (by decide) ?_
    exact pr_ireturn hA rfl rfl (Nat.zero_le _) (Nat.zero_le _) dX7_takeDown_41 ⟨(by simp only [fx_takeDown_r, if_neg c_25]), rfl, (by simp only [fx_takeDown, if_neg c_25]), rfl⟩

noncomputable def fx_bringUp_r (σ : pr_I) (k : Nat) : Int32 := (if (if lk_up σ k = 0 then (0 : Int32) else 1) = 0 then (σ 0 7) else ((-3) : Int32))
noncomputable def fx_bringUp (σ : pr_I) (k : Nat) : pr_I := (if (if lk_up σ k = 0 then (0 : Int32) else 1) = 0 then (pr_up σ 1 7 ((σ 1 7) ||| ((1 : Int32) <<< ((nI k) &&& 31)))) else σ)
set_option maxRecDepth 100000 in
set_option maxHeartbeats 400000 in
theorem c_fx_bringUp {g : pr_C} {l : Launch} (hl : l.stackTraces = false) {T : pr_T} {I : pr_I} {L : pr_L} {w : Nat} {σ : pr_I} {k : Nat} (hw : pr_W T w) {x v sn f y : Nat} (hx : pr_X7 T x w v sn f y) (hI : wI σ) (hk : k < lkn σ) : pr_M g l 8 0 0 mX7_bringUp [.ref x, .int (nI k)] T (ws_put I w σ) L (pr_R (some (.int (fx_bringUp_r σ k))) T (ws_put I w (fx_bringUp σ k)) L) pr_no := by
  refine pr_ofG (by decide) rfl hl (Nat.le_of_ble_eq_true rfl) (fun X hA hX hXn hXt => ?_)
  subst hX
  show pr_G g X mX7_bringUp.2.2.1 _ 0 0 0 [.ref x, .int (nI k)] [] T (ws_put I w σ) L
  have hl24 := wI_nl24 hI
  have hn5 := wI_n5 hI
  have hr4 := wI_nr4 hI
  have hn12 := wI_nn12 hI
  refine pr_iload_n hA dX7_bringUp_0 rfl ?_
  refine pr_aload_n hA dX7_bringUp_1 rfl ?_
  refine pr_getR hA f_X7_10 rfl (tx_k hx) (tx_0 hx) dX7_bringUp_2 ?_
  refine pr_getR hA f_X7_55 rfl (wk_0 hw) (wf_0_0 hw) dX7_bringUp_5 ?_
  refine pr_getE (v := (nI (lkn σ))) hA f_X7_59 rfl (wk_1 hw) ((ws_val (by decide)).trans (wI_nl hI)) dX7_bringUp_8 ?_
  refine pr_callSv hA [.int (nI k), .int (nI (lkn σ))] (c_ri_ok (pr_hl hA) (by omega) (by omega)) s_X7_74 rfl (by decide) (Nat.zero_le _) (Nat.zero_le _) rfl (Nat.le_of_ble_eq_true rfl) dX7_bringUp_11 ?_
  refine pr_aload_n hA dX7_bringUp_14 rfl ?_
  refine pr_getR hA f_X7_10 rfl (tx_k hx) (tx_0 hx) dX7_bringUp_15 ?_
  refine pr_getR hA f_X7_55 rfl (wk_0 hw) (wf_0_0 hw) dX7_bringUp_18 ?_
  refine pr_iload_n hA dX7_bringUp_21 rfl ?_
  refine pr_callVi hA [.int (nI k)] (c_isUp (pr_hl hA) hw) v_X7_110 (wk_1 hw) (by decide) rfl rfl rfl (by decide) (Nat.zero_le _) (Nat.zero_le _) rfl (Nat.le_of_ble_eq_true rfl) dX7_bringUp_22 ?_
  refine pr_if_eq hA 31 dX7_bringUp_25 (by decide) (fun c_25 => ?_) (fun c_25 => ?_)
  · refine pr_aload_n hA dX7_bringUp_31 rfl ?_
    refine pr_getR hA f_X7_10 rfl (tx_k hx) (tx_0 hx) dX7_bringUp_32 ?_
    refine pr_getR hA f_X7_55 rfl (wk_0 hw) (wf_0_0 hw) dX7_bringUp_35 ?_
    refine pr_dup hA dX7_bringUp_38 rfl ?_
    refine pr_getE (v := (σ 1 7)) hA f_X7_118 rfl (wk_1 hw) (ws_val (by decide)) dX7_bringUp_39 ?_
    refine pr_iconst hA (1) dX7_bringUp_42 (by decide) ?_
    refine pr_iload_n hA dX7_bringUp_43 rfl ?_
    refine pr_ishl hA dX7_bringUp_44 ?_
    refine pr_ior hA dX7_bringUp_45 ?_
    refine pr_putE (I' := (ws_put I w (pr_up σ 1 7 ((σ 1 7) ||| ((1 : Int32) <<< ((nI k) &&& 31)))))) hA f_X7_118 rfl (wk_1 hw) (ws_up (by decide)) dX7_bringUp_46 ?_
    refine pr_aload_n hA dX7_bringUp_49 rfl ?_
    refine pr_getR hA f_X7_10 rfl (tx_k hx) (tx_0 hx) dX7_bringUp_50 ?_
    refine pr_getE (v := (σ 0 7)) hA f_X7_121 rfl (wk_0 hw) (ws_val0.trans (pr_upv (by decide))) dX7_bringUp_53 ?_
    exact pr_ireturn hA rfl rfl (Nat.zero_le _) (Nat.zero_le _) dX7_bringUp_56 ⟨(by simp only [fx_bringUp_r, if_pos c_25]), rfl, (by simp only [fx_bringUp, if_pos c_25]), rfl⟩
  · refine pr_bipush hA ((-3)) dX7_bringUp_28 (by decide) ?_
    exact pr_ireturn hA rfl rfl (Nat.zero_le _) (Nat.zero_le _) dX7_bringUp_30 ⟨(by simp only [fx_bringUp_r, if_neg c_25]), rfl, (by simp only [fx_bringUp, if_neg c_25]), rfl⟩

noncomputable def fx_cancel_r (σ : pr_I) (k : Nat) : Int32 := (if (if (rq_way_r σ k) = 0 then (if (σ 23 k) = (2 : Int32) then (1 : Int32) else (0 : Int32)) else (1 : Int32)) = 0 then ((-3) : Int32) else (w_cancel_r σ (tkn σ) k))
noncomputable def fx_cancel (σ : pr_I) (k : Nat) : pr_I := (if (if (rq_way_r σ k) = 0 then (if (σ 23 k) = (2 : Int32) then (1 : Int32) else (0 : Int32)) else (1 : Int32)) = 0 then σ else (w_cancel σ (tkn σ) k))
set_option maxRecDepth 100000 in
set_option maxHeartbeats 400000 in
theorem c_fx_cancel {g : pr_C} {l : Launch} (hl : l.stackTraces = false) {T : pr_T} {I : pr_I} {L : pr_L} {w : Nat} {σ : pr_I} {k : Nat} (hw : pr_W T w) {x v sn f y : Nat} (hx : pr_X7 T x w v sn f y) (hI : wI σ) (hk : k < rqn σ) : pr_M g l 8 0 0 mX7_cancel [.ref x, .int (nI k)] T (ws_put I w σ) L (pr_R (some (.int (fx_cancel_r σ k))) T (ws_put I w (fx_cancel σ k)) L) pr_no := by
  refine pr_ofG (by decide) rfl hl (Nat.le_of_ble_eq_true rfl) (fun X hA hX hXn hXt => ?_)
  subst hX
  show pr_G g X mX7_cancel.2.2.1 _ 0 0 0 [.ref x, .int (nI k), .null] [] T (ws_put I w σ) L
  have hl24 := wI_nl24 hI
  have hn5 := wI_n5 hI
  have hr4 := wI_nr4 hI
  have hn12 := wI_nn12 hI
  refine pr_iload_n hA dX7_cancel_0 rfl ?_
  refine pr_aload_n hA dX7_cancel_1 rfl ?_
  refine pr_getR hA f_X7_10 rfl (tx_k hx) (tx_0 hx) dX7_cancel_2 ?_
  refine pr_getR hA f_X7_131 rfl (wk_0 hw) (wf_0_2 hw) dX7_cancel_5 ?_
  refine pr_getE (v := (nI (rqn σ))) hA f_X7_135 rfl (wk_18 hw) ((ws_val (by decide)).trans (wI_nr hI)) dX7_cancel_8 ?_
  refine pr_callSv hA [.int (nI k), .int (nI (rqn σ))] (c_ri_ok (pr_hl hA) (by omega) (by omega)) s_X7_74 rfl (by decide) (Nat.zero_le _) (Nat.zero_le _) rfl (Nat.le_of_ble_eq_true rfl) dX7_cancel_11 ?_
  refine pr_aload_n hA dX7_cancel_14 rfl ?_
  refine pr_getR hA f_X7_10 rfl (tx_k hx) (tx_0 hx) dX7_cancel_15 ?_
  refine pr_getR hA f_X7_131 rfl (wk_0 hw) (wf_0_2 hw) dX7_cancel_18 ?_
  refine pr_iload_n hA dX7_cancel_21 rfl ?_
  refine pr_callVi hA [.int (nI k)] (c_rq_way (w := w) (σ := σ) (r := k) (pr_hl hA) hw (by omega)) v_X7_138 (wk_18 hw) (by decide) rfl rfl rfl (by decide) (Nat.zero_le _) (Nat.zero_le _) rfl (Nat.le_of_ble_eq_true rfl) dX7_cancel_22 ?_
  refine pr_join (c := (rq_way_r σ k) = 0) (J := 49) (st := []) (if (σ 23 k) = (2 : Int32) then (1 : Int32) else (0 : Int32)) (1 : Int32) inferInstance (fun kt kf => ?_) ?_
  · refine pr_if_ne hA 44 dX7_cancel_25 (by decide) (fun c_25 => ?_) (fun c_25 => ?_)
    · refine pr_iconst hA (1) dX7_cancel_44 (by decide) ?_
      refine pr_goto hA 49 dX7_cancel_45 (by decide) ?_
      exact kf c_25
    · refine pr_aload_n hA dX7_cancel_28 rfl ?_
      refine pr_getR hA f_X7_10 rfl (tx_k hx) (tx_0 hx) dX7_cancel_29 ?_
      refine pr_getR hA f_X7_131 rfl (wk_0 hw) (wf_0_2 hw) dX7_cancel_32 ?_
      refine pr_getR hA f_X7_141 rfl (wk_18 hw) (wf_18_4 hw) dX7_cancel_35 ?_
      refine pr_iload_n hA dX7_cancel_38 rfl ?_
      refine pr_ialdN (v := (σ 23 k)) hA (wk_23 hw) (by omega) (by omega) (ws_val (by decide)) dX7_cancel_39 ?_
      refine pr_iconst hA (2) dX7_cancel_40 (by decide) ?_
      refine pr_join (c := (σ 23 k) = (2 : Int32)) (J := 49) (st := []) (1 : Int32) (0 : Int32) inferInstance (fun kt kf => ?_) ?_
      · refine pr_icmp_ne hA 48 dX7_cancel_41 (by decide) (fun c_41 => ?_) (fun c_41 => ?_)
        · refine pr_iconst hA (0) dX7_cancel_48 (by decide) ?_
          exact kf c_41
        · refine pr_iconst hA (1) dX7_cancel_44 (by decide) ?_
          refine pr_goto hA 49 dX7_cancel_45 (by decide) ?_
          exact kt c_41
      · exact kt c_25
  · refine pr_istore_n (ls' := [_, _, _]) hA dX7_cancel_49 (by decide) rfl ?_
    refine pr_iload_n hA dX7_cancel_50 rfl ?_
    refine pr_if_eq hA 65 dX7_cancel_51 (by decide) (fun c_51 => ?_) (fun c_51 => ?_)
    · refine pr_bipush hA ((-3)) dX7_cancel_65 (by decide) ?_
      exact pr_ireturn hA rfl rfl (Nat.zero_le _) (Nat.zero_le _) dX7_cancel_67 ⟨(by simp only [fx_cancel_r, if_pos c_51]), rfl, (by simp only [fx_cancel, if_pos c_51]), rfl⟩
    · refine pr_aload_n hA dX7_cancel_54 rfl ?_
      refine pr_getR hA f_X7_10 rfl (tx_k hx) (tx_0 hx) dX7_cancel_55 ?_
      refine pr_iload_n hA dX7_cancel_58 rfl ?_
      have hv59 : wI σ := hI
      refine pr_callVi hA [.int (nI k)] (c_w_cancel (w := w) (σ := σ) (n := (tkn σ)) (r := k) (pr_hl hA) hw (wI_n hv59) (wI_n5 hv59) (wI_B hv59) (by omega)) v_X7_144 (wk_0 hw) (by decide) rfl rfl rfl (by decide) (Nat.zero_le _) (Nat.zero_le _) rfl (Nat.le_of_ble_eq_true rfl) dX7_cancel_59 ?_
      refine pr_goto hA 67 dX7_cancel_62 (by decide) ?_
      exact pr_ireturn hA rfl rfl (Nat.zero_le _) (Nat.zero_le _) dX7_cancel_67 ⟨(by simp only [fx_cancel_r, if_neg c_51]), rfl, (by simp only [fx_cancel, if_neg c_51]), rfl⟩

noncomputable def fx_extend_r (σ : pr_I) (k : Nat) : Int32 := (tk_post_r σ (tkn σ) (nI k) ((σ 0 7) + (σ 119 0)))
noncomputable def fx_extend (σ : pr_I) (k : Nat) : pr_I := (tk_post σ (tkn σ) (nI k) ((σ 0 7) + (σ 119 0)))
set_option maxRecDepth 100000 in
set_option maxHeartbeats 400000 in
theorem c_fx_extend {g : pr_C} {l : Launch} (hl : l.stackTraces = false) {T : pr_T} {I : pr_I} {L : pr_L} {w : Nat} {σ : pr_I} {k : Nat} (hw : pr_W T w) {x v sn f y : Nat} (hx : pr_X7 T x w v sn f y) (hI : wI σ) (hk : k < rqn σ) : pr_M g l 8 0 0 mX7_extend [.ref x, .int (nI k)] T (ws_put I w σ) L (pr_R (some (.int (fx_extend_r σ k))) T (ws_put I w (fx_extend σ k)) L) pr_no := by
  refine pr_ofG (by decide) rfl hl (Nat.le_of_ble_eq_true rfl) (fun X hA hX hXn hXt => ?_)
  subst hX
  show pr_G g X mX7_extend.2.2.1 _ 0 0 0 [.ref x, .int (nI k)] [] T (ws_put I w σ) L
  have hl24 := wI_nl24 hI
  have hn5 := wI_n5 hI
  have hr4 := wI_nr4 hI
  have hn12 := wI_nn12 hI
  refine pr_iload_n hA dX7_extend_0 rfl ?_
  refine pr_aload_n hA dX7_extend_1 rfl ?_
  refine pr_getR hA f_X7_10 rfl (tx_k hx) (tx_0 hx) dX7_extend_2 ?_
  refine pr_getR hA f_X7_131 rfl (wk_0 hw) (wf_0_2 hw) dX7_extend_5 ?_
  refine pr_getE (v := (nI (rqn σ))) hA f_X7_135 rfl (wk_18 hw) ((ws_val (by decide)).trans (wI_nr hI)) dX7_extend_8 ?_
  refine pr_callSv hA [.int (nI k), .int (nI (rqn σ))] (c_ri_ok (pr_hl hA) (by omega) (by omega)) s_X7_74 rfl (by decide) (Nat.zero_le _) (Nat.zero_le _) rfl (Nat.le_of_ble_eq_true rfl) dX7_extend_11 ?_
  refine pr_aload_n hA dX7_extend_14 rfl ?_
  refine pr_getR hA f_X7_10 rfl (tx_k hx) (tx_0 hx) dX7_extend_15 ?_
  refine pr_getR hA f_X7_147 rfl (wk_0 hw) (wf_0_1 hw) dX7_extend_18 ?_
  refine pr_iload_n hA dX7_extend_21 rfl ?_
  refine pr_aload_n hA dX7_extend_22 rfl ?_
  refine pr_getR hA f_X7_10 rfl (tx_k hx) (tx_0 hx) dX7_extend_23 ?_
  refine pr_getE (v := (σ 0 7)) hA f_X7_121 rfl (wk_0 hw) ws_val0 dX7_extend_26 ?_
  refine pr_aload_n hA dX7_extend_29 rfl ?_
  refine pr_getR hA f_X7_10 rfl (tx_k hx) (tx_0 hx) dX7_extend_30 ?_
  refine pr_getR hA f_X7_94 rfl (wk_0 hw) (wf_0_4 hw) dX7_extend_33 ?_
  refine pr_iconst hA (nI 0) dX7_extend_36 (by decide) ?_
  refine pr_ialdN (v := (σ 119 0)) hA (wk_119 hw) (by omega) (by omega) (ws_val (by decide)) dX7_extend_37 ?_
  refine pr_iadd hA dX7_extend_38 ?_
  have hv39 : wI σ := hI
  refine pr_callVi hA [.int (nI k), .int ((σ 0 7) + (σ 119 0))] (c_tk_post (w := w) (σ := σ) (n := (tkn σ)) (h := (nI k)) (v := ((σ 0 7) + (σ 119 0))) (pr_hl hA) hw (wI_n hv39) (wI_n5 hv39)) v_X7_151 (wk_9 hw) (by decide) rfl rfl rfl (by decide) (Nat.zero_le _) (Nat.zero_le _) rfl (Nat.le_of_ble_eq_true rfl) dX7_extend_39 ?_
  exact pr_ireturn hA rfl rfl (Nat.zero_le _) (Nat.zero_le _) dX7_extend_42 ⟨rfl, rfl, rfl, rfl⟩

noncomputable def fx_advance_r (σ : pr_I) (z : Int32) : Int32 := (if ((σ 0 7) + z) ≤ (1000000 : Int32) then ((w_pt σ ((σ 0 7) + z)) 0 7) else ((-2) : Int32))
noncomputable def fx_advance (σ : pr_I) (z : Int32) : pr_I := (if ((σ 0 7) + z) ≤ (1000000 : Int32) then (w_pt σ ((σ 0 7) + z)) else σ)
set_option maxRecDepth 100000 in
set_option maxHeartbeats 400000 in
theorem c_fx_advance {g : pr_C} {l : Launch} (hl : l.stackTraces = false) {T : pr_T} {I : pr_I} {L : pr_L} {w : Nat} {σ : pr_I} {z : Int32} (hw : pr_W T w) {x v sn f y : Nat} (hx : pr_X7 T x w v sn f y) (hI : wI σ) (hz1 : 1 ≤ z) (hz2 : z ≤ 1000) : pr_M g l 10 0 0 mX7_advance [.ref x, .int z] T (ws_put I w σ) L (pr_R (some (.int (fx_advance_r σ z))) T (ws_put I w (fx_advance σ z)) L) pr_no := by
  refine pr_ofG (by decide) rfl hl (Nat.le_of_ble_eq_true rfl) (fun X hA hX hXn hXt => ?_)
  subst hX
  show pr_G g X mX7_advance.2.2.1 _ 0 0 0 [.ref x, .int z] [] T (ws_put I w σ) L
  have hl24 := wI_nl24 hI
  have hn5 := wI_n5 hI
  have hr4 := wI_nr4 hI
  have hn12 := wI_nn12 hI
  refine pr_iload_n hA dX7_advance_0 rfl ?_
  refine pr_iconst hA (1) dX7_advance_1 (by decide) ?_
  refine pr_sipush hA (1000) dX7_advance_2 (by decide) ?_
  refine pr_callSv hA [.int z, .int (1 : Int32), .int (1000 : Int32)] (c_rr_ok (pr_hl hA) hz1 hz2) s_X7_86 rfl (by decide) (Nat.zero_le _) (Nat.zero_le _) rfl (Nat.le_of_ble_eq_true rfl) dX7_advance_5 ?_
  refine pr_aload_n hA dX7_advance_8 rfl ?_
  refine pr_getR hA f_X7_10 rfl (tx_k hx) (tx_0 hx) dX7_advance_9 ?_
  refine pr_getE (v := (σ 0 7)) hA f_X7_121 rfl (wk_0 hw) ws_val0 dX7_advance_12 ?_
  refine pr_iload_n hA dX7_advance_15 rfl ?_
  refine pr_iadd hA dX7_advance_16 ?_
  refine pr_ldc hA kK_X7_156 dX7_advance_17 ?_
  refine pr_icmp_le hA 25 dX7_advance_19 (by decide) (fun c_19 => ?_) (fun c_19 => ?_)
  · refine pr_aload_n hA dX7_advance_25 rfl ?_
    refine pr_getR hA f_X7_10 rfl (tx_k hx) (tx_0 hx) dX7_advance_26 ?_
    refine pr_aload_n hA dX7_advance_29 rfl ?_
    refine pr_getR hA f_X7_10 rfl (tx_k hx) (tx_0 hx) dX7_advance_30 ?_
    refine pr_getE (v := (σ 0 7)) hA f_X7_121 rfl (wk_0 hw) ws_val0 dX7_advance_33 ?_
    refine pr_iload_n hA dX7_advance_36 rfl ?_
    refine pr_iadd hA dX7_advance_37 ?_
    have hv38 : wI σ := hI
    refine pr_callVv hA [.int ((σ 0 7) + z)] (c_w_pt (w := w) (σ := σ) (lat := ((σ 0 7) + z)) (pr_hl hA) hw hv38) v_X7_157 (wk_0 hw) (by decide) rfl rfl rfl (by decide) (Nat.zero_le _) (Nat.zero_le _) rfl (Nat.le_of_ble_eq_true rfl) dX7_advance_38 ?_
    refine pr_aload_n hA dX7_advance_41 rfl ?_
    refine pr_getR hA f_X7_10 rfl (tx_k hx) (tx_0 hx) dX7_advance_42 ?_
    refine pr_getE (v := ((w_pt σ ((σ 0 7) + z)) 0 7)) hA f_X7_121 rfl (wk_0 hw) ws_val0 dX7_advance_45 ?_
    exact pr_ireturn hA rfl rfl (Nat.zero_le _) (Nat.zero_le _) dX7_advance_48 ⟨(by simp only [fx_advance_r, if_pos c_19]), rfl, (by simp only [fx_advance, if_pos c_19]), rfl⟩
  · refine pr_bipush hA ((-2)) dX7_advance_22 (by decide) ?_
    exact pr_ireturn hA rfl rfl (Nat.zero_le _) (Nat.zero_le _) dX7_advance_24 ⟨(by simp only [fx_advance_r, if_neg c_19]), rfl, (by simp only [fx_advance, if_neg c_19]), rfl⟩

noncomputable def fx_time_r (σ : pr_I) : Int32 := (σ 0 7)
set_option maxRecDepth 100000 in
set_option maxHeartbeats 400000 in
theorem c_fx_time {g : pr_C} {l : Launch} (hl : l.stackTraces = false) {T : pr_T} {I : pr_I} {L : pr_L} {w : Nat} {σ : pr_I}  (hw : pr_W T w) {x v sn f y : Nat} (hx : pr_X7 T x w v sn f y) (hI : wI σ) : pr_M g l 8 0 0 mX7_time [.ref x] T (ws_put I w σ) L (pr_R (some (.int (fx_time_r σ))) T (ws_put I w σ) L) pr_no := by
  refine pr_ofG (by decide) rfl hl (Nat.le_of_ble_eq_true rfl) (fun X hA hX hXn hXt => ?_)
  subst hX
  show pr_G g X mX7_time.2.2.1 _ 0 0 0 [.ref x] [] T (ws_put I w σ) L
  have hl24 := wI_nl24 hI
  have hn5 := wI_n5 hI
  have hr4 := wI_nr4 hI
  have hn12 := wI_nn12 hI
  refine pr_aload_n hA dX7_time_0 rfl ?_
  refine pr_getR hA f_X7_10 rfl (tx_k hx) (tx_0 hx) dX7_time_1 ?_
  refine pr_getE (v := (σ 0 7)) hA f_X7_121 rfl (wk_0 hw) ws_val0 dX7_time_4 ?_
  exact pr_ireturn hA rfl rfl (Nat.zero_le _) (Nat.zero_le _) dX7_time_7 ⟨rfl, rfl, rfl, rfl⟩

noncomputable def fx_requestCount_r (σ : pr_I) : Int32 := (nI (rqn σ))
set_option maxRecDepth 100000 in
set_option maxHeartbeats 400000 in
theorem c_fx_requestCount {g : pr_C} {l : Launch} (hl : l.stackTraces = false) {T : pr_T} {I : pr_I} {L : pr_L} {w : Nat} {σ : pr_I}  (hw : pr_W T w) {x v sn f y : Nat} (hx : pr_X7 T x w v sn f y) (hI : wI σ) : pr_M g l 8 0 0 mX7_requestCount [.ref x] T (ws_put I w σ) L (pr_R (some (.int (fx_requestCount_r σ))) T (ws_put I w σ) L) pr_no := by
  refine pr_ofG (by decide) rfl hl (Nat.le_of_ble_eq_true rfl) (fun X hA hX hXn hXt => ?_)
  subst hX
  show pr_G g X mX7_requestCount.2.2.1 _ 0 0 0 [.ref x] [] T (ws_put I w σ) L
  have hl24 := wI_nl24 hI
  have hn5 := wI_n5 hI
  have hr4 := wI_nr4 hI
  have hn12 := wI_nn12 hI
  refine pr_aload_n hA dX7_requestCount_0 rfl ?_
  refine pr_getR hA f_X7_10 rfl (tx_k hx) (tx_0 hx) dX7_requestCount_1 ?_
  refine pr_getR hA f_X7_131 rfl (wk_0 hw) (wf_0_2 hw) dX7_requestCount_4 ?_
  refine pr_getE (v := (nI (rqn σ))) hA f_X7_135 rfl (wk_18 hw) ((ws_val (by decide)).trans (wI_nr hI)) dX7_requestCount_7 ?_
  exact pr_ireturn hA rfl rfl (Nat.zero_le _) (Nat.zero_le _) dX7_requestCount_10 ⟨rfl, rfl, rfl, rfl⟩

noncomputable def fx_requestValue_r (σ : pr_I) (k : Nat) (c : Nat) : Int32 := (rq_val σ k c)
set_option maxRecDepth 100000 in
set_option maxHeartbeats 400000 in
theorem c_fx_requestValue {g : pr_C} {l : Launch} (hl : l.stackTraces = false) {T : pr_T} {I : pr_I} {L : pr_L} {w : Nat} {σ : pr_I} {k : Nat} {c : Nat} (hw : pr_W T w) {x v sn f y : Nat} (hx : pr_X7 T x w v sn f y) (hI : wI σ) (hk : k < rqn σ) (hc : c ≤ 12) : pr_M g l 8 0 0 mX7_requestValue [.ref x, .int (nI k), .int (nI c)] T (ws_put I w σ) L (pr_R (some (.int (fx_requestValue_r σ k c))) T (ws_put I w σ) L) pr_no := by
  refine pr_ofG (by decide) rfl hl (Nat.le_of_ble_eq_true rfl) (fun X hA hX hXn hXt => ?_)
  subst hX
  show pr_G g X mX7_requestValue.2.2.1 _ 0 0 0 [.ref x, .int (nI k), .int (nI c)] [] T (ws_put I w σ) L
  have hl24 := wI_nl24 hI
  have hn5 := wI_n5 hI
  have hr4 := wI_nr4 hI
  have hn12 := wI_nn12 hI
  refine pr_iload_n hA dX7_requestValue_0 rfl ?_
  refine pr_aload_n hA dX7_requestValue_1 rfl ?_
  refine pr_getR hA f_X7_10 rfl (tx_k hx) (tx_0 hx) dX7_requestValue_2 ?_
  refine pr_getR hA f_X7_131 rfl (wk_0 hw) (wf_0_2 hw) dX7_requestValue_5 ?_
  refine pr_getE (v := (nI (rqn σ))) hA f_X7_135 rfl (wk_18 hw) ((ws_val (by decide)).trans (wI_nr hI)) dX7_requestValue_8 ?_
  refine pr_callSv hA [.int (nI k), .int (nI (rqn σ))] (c_ri_ok (pr_hl hA) (by omega) (by omega)) s_X7_74 rfl (by decide) (Nat.zero_le _) (Nat.zero_le _) rfl (Nat.le_of_ble_eq_true rfl) dX7_requestValue_11 ?_
  refine pr_iload_n hA dX7_requestValue_14 rfl ?_
  refine pr_iconst hA (0) dX7_requestValue_15 (by decide) ?_
  refine pr_bipush hA (12) dX7_requestValue_16 (by decide) ?_
  refine pr_callSv hA [.int (nI c), .int (0 : Int32), .int (12 : Int32)] (c_rr_ok (pr_hl hA) (nI_r0 (b := 12) (by omega) (by decide)).1 (nI_r0 (b := 12) (by omega) (by decide)).2) s_X7_86 rfl (by decide) (Nat.zero_le _) (Nat.zero_le _) rfl (Nat.le_of_ble_eq_true rfl) dX7_requestValue_18 ?_
  refine pr_aload_n hA dX7_requestValue_21 rfl ?_
  refine pr_getR hA f_X7_10 rfl (tx_k hx) (tx_0 hx) dX7_requestValue_22 ?_
  refine pr_getR hA f_X7_131 rfl (wk_0 hw) (wf_0_2 hw) dX7_requestValue_25 ?_
  refine pr_iload_n hA dX7_requestValue_28 rfl ?_
  refine pr_iload_n hA dX7_requestValue_29 rfl ?_
  refine pr_callVi hA [.int (nI k), .int (nI c)] (c_rqval (pr_hl hA) hw (by omega) (by omega)) v_X7_161 (wk_18 hw) (by decide) rfl rfl rfl (by decide) (Nat.zero_le _) (Nat.zero_le _) rfl (Nat.le_of_ble_eq_true rfl) dX7_requestValue_30 ?_
  exact pr_ireturn hA rfl rfl (Nat.zero_le _) (Nat.zero_le _) dX7_requestValue_33 ⟨rfl, rfl, rfl, rfl⟩

noncomputable def fx_pathLength_r (σ : pr_I) (k : Nat) : Int32 := (σ 32 k)
set_option maxRecDepth 100000 in
set_option maxHeartbeats 400000 in
theorem c_fx_pathLength {g : pr_C} {l : Launch} (hl : l.stackTraces = false) {T : pr_T} {I : pr_I} {L : pr_L} {w : Nat} {σ : pr_I} {k : Nat} (hw : pr_W T w) {x v sn f y : Nat} (hx : pr_X7 T x w v sn f y) (hI : wI σ) (hk : k < rqn σ) : pr_M g l 8 0 0 mX7_pathLength [.ref x, .int (nI k)] T (ws_put I w σ) L (pr_R (some (.int (fx_pathLength_r σ k))) T (ws_put I w σ) L) pr_no := by
  refine pr_ofG (by decide) rfl hl (Nat.le_of_ble_eq_true rfl) (fun X hA hX hXn hXt => ?_)
  subst hX
  show pr_G g X mX7_pathLength.2.2.1 _ 0 0 0 [.ref x, .int (nI k)] [] T (ws_put I w σ) L
  have hl24 := wI_nl24 hI
  have hn5 := wI_n5 hI
  have hr4 := wI_nr4 hI
  have hn12 := wI_nn12 hI
  refine pr_iload_n hA dX7_pathLength_0 rfl ?_
  refine pr_aload_n hA dX7_pathLength_1 rfl ?_
  refine pr_getR hA f_X7_10 rfl (tx_k hx) (tx_0 hx) dX7_pathLength_2 ?_
  refine pr_getR hA f_X7_131 rfl (wk_0 hw) (wf_0_2 hw) dX7_pathLength_5 ?_
  refine pr_getE (v := (nI (rqn σ))) hA f_X7_135 rfl (wk_18 hw) ((ws_val (by decide)).trans (wI_nr hI)) dX7_pathLength_8 ?_
  refine pr_callSv hA [.int (nI k), .int (nI (rqn σ))] (c_ri_ok (pr_hl hA) (by omega) (by omega)) s_X7_74 rfl (by decide) (Nat.zero_le _) (Nat.zero_le _) rfl (Nat.le_of_ble_eq_true rfl) dX7_pathLength_11 ?_
  refine pr_aload_n hA dX7_pathLength_14 rfl ?_
  refine pr_getR hA f_X7_10 rfl (tx_k hx) (tx_0 hx) dX7_pathLength_15 ?_
  refine pr_getR hA f_X7_131 rfl (wk_0 hw) (wf_0_2 hw) dX7_pathLength_18 ?_
  refine pr_getR hA f_X7_162 rfl (wk_18 hw) (wf_18_13 hw) dX7_pathLength_21 ?_
  refine pr_iload_n hA dX7_pathLength_24 rfl ?_
  refine pr_ialdN (v := (σ 32 k)) hA (wk_32 hw) (by omega) (by omega) (ws_val (by decide)) dX7_pathLength_25 ?_
  exact pr_ireturn hA rfl rfl (Nat.zero_le _) (Nat.zero_le _) dX7_pathLength_26 ⟨rfl, rfl, rfl, rfl⟩

noncomputable def fx_placeOf_r (σ : pr_I) (k : Nat) : Int32 := (if (σ 23 k) = 0 then (σ 33 k) else (if (σ 23 k) = (1 : Int32) then (σ 33 k) else ((-1) : Int32)))
set_option maxRecDepth 100000 in
set_option maxHeartbeats 400000 in
theorem c_fx_placeOf {g : pr_C} {l : Launch} (hl : l.stackTraces = false) {T : pr_T} {I : pr_I} {L : pr_L} {w : Nat} {σ : pr_I} {k : Nat} (hw : pr_W T w) {x v sn f y : Nat} (hx : pr_X7 T x w v sn f y) (hI : wI σ) (hk : k < rqn σ) : pr_M g l 8 0 0 mX7_placeOf [.ref x, .int (nI k)] T (ws_put I w σ) L (pr_R (some (.int (fx_placeOf_r σ k))) T (ws_put I w σ) L) pr_no := by
  refine pr_ofG (by decide) rfl hl (Nat.le_of_ble_eq_true rfl) (fun X hA hX hXn hXt => ?_)
  subst hX
  show pr_G g X mX7_placeOf.2.2.1 _ 0 0 0 [.ref x, .int (nI k), .null] [] T (ws_put I w σ) L
  have hl24 := wI_nl24 hI
  have hn5 := wI_n5 hI
  have hr4 := wI_nr4 hI
  have hn12 := wI_nn12 hI
  refine pr_iload_n hA dX7_placeOf_0 rfl ?_
  refine pr_aload_n hA dX7_placeOf_1 rfl ?_
  refine pr_getR hA f_X7_10 rfl (tx_k hx) (tx_0 hx) dX7_placeOf_2 ?_
  refine pr_getR hA f_X7_131 rfl (wk_0 hw) (wf_0_2 hw) dX7_placeOf_5 ?_
  refine pr_getE (v := (nI (rqn σ))) hA f_X7_135 rfl (wk_18 hw) ((ws_val (by decide)).trans (wI_nr hI)) dX7_placeOf_8 ?_
  refine pr_callSv hA [.int (nI k), .int (nI (rqn σ))] (c_ri_ok (pr_hl hA) (by omega) (by omega)) s_X7_74 rfl (by decide) (Nat.zero_le _) (Nat.zero_le _) rfl (Nat.le_of_ble_eq_true rfl) dX7_placeOf_11 ?_
  refine pr_aload_n hA dX7_placeOf_14 rfl ?_
  refine pr_getR hA f_X7_10 rfl (tx_k hx) (tx_0 hx) dX7_placeOf_15 ?_
  refine pr_getR hA f_X7_131 rfl (wk_0 hw) (wf_0_2 hw) dX7_placeOf_18 ?_
  refine pr_getR hA f_X7_141 rfl (wk_18 hw) (wf_18_4 hw) dX7_placeOf_21 ?_
  refine pr_iload_n hA dX7_placeOf_24 rfl ?_
  refine pr_ialdN (v := (σ 23 k)) hA (wk_23 hw) (by omega) (by omega) (ws_val (by decide)) dX7_placeOf_25 ?_
  refine pr_istore_n (ls' := [_, _, _]) hA dX7_placeOf_26 (by decide) rfl ?_
  refine pr_iload_n hA dX7_placeOf_27 rfl ?_
  refine pr_join (c := (σ 23 k) = 0) (J := 52) (st := []) (σ 33 k) (if (σ 23 k) = (1 : Int32) then (σ 33 k) else ((-1) : Int32)) inferInstance (fun kt kf => ?_) ?_
  · refine pr_if_eq hA 36 dX7_placeOf_28 (by decide) (fun c_28 => ?_) (fun c_28 => ?_)
    · refine pr_aload_n hA dX7_placeOf_36 rfl ?_
      refine pr_getR hA f_X7_10 rfl (tx_k hx) (tx_0 hx) dX7_placeOf_37 ?_
      refine pr_getR hA f_X7_131 rfl (wk_0 hw) (wf_0_2 hw) dX7_placeOf_40 ?_
      refine pr_getR hA f_X7_169 rfl (wk_18 hw) (wf_18_14 hw) dX7_placeOf_43 ?_
      refine pr_iload_n hA dX7_placeOf_46 rfl ?_
      refine pr_ialdN (v := (σ 33 k)) hA (wk_33 hw) (by omega) (by omega) (ws_val (by decide)) dX7_placeOf_47 ?_
      refine pr_goto hA 52 dX7_placeOf_48 (by decide) ?_
      exact kt c_28
    · refine pr_iload_n hA dX7_placeOf_31 rfl ?_
      refine pr_iconst hA (1) dX7_placeOf_32 (by decide) ?_
      refine pr_join (c := (σ 23 k) = (1 : Int32)) (J := 52) (st := []) (σ 33 k) ((-1) : Int32) inferInstance (fun kt kf => ?_) ?_
      · refine pr_icmp_ne hA 51 dX7_placeOf_33 (by decide) (fun c_33 => ?_) (fun c_33 => ?_)
        · refine pr_iconst hA ((-1)) dX7_placeOf_51 (by decide) ?_
          exact kf c_33
        · refine pr_aload_n hA dX7_placeOf_36 rfl ?_
          refine pr_getR hA f_X7_10 rfl (tx_k hx) (tx_0 hx) dX7_placeOf_37 ?_
          refine pr_getR hA f_X7_131 rfl (wk_0 hw) (wf_0_2 hw) dX7_placeOf_40 ?_
          refine pr_getR hA f_X7_169 rfl (wk_18 hw) (wf_18_14 hw) dX7_placeOf_43 ?_
          refine pr_iload_n hA dX7_placeOf_46 rfl ?_
          refine pr_ialdN (v := (σ 33 k)) hA (wk_33 hw) (by omega) (by omega) (ws_val (by decide)) dX7_placeOf_47 ?_
          refine pr_goto hA 52 dX7_placeOf_48 (by decide) ?_
          exact kt c_33
      · exact kf c_28
  · exact pr_ireturn hA rfl rfl (Nat.zero_le _) (Nat.zero_le _) dX7_placeOf_52 ⟨rfl, rfl, rfl, rfl⟩

noncomputable def fx_inState_r (σ : pr_I) (c : Nat) : Int32 := (rq_cnt_r σ (rqn σ) (nI c))
set_option maxRecDepth 100000 in
set_option maxHeartbeats 400000 in
theorem c_fx_inState {g : pr_C} {l : Launch} (hl : l.stackTraces = false) {T : pr_T} {I : pr_I} {L : pr_L} {w : Nat} {σ : pr_I} {c : Nat} (hw : pr_W T w) {x v sn f y : Nat} (hx : pr_X7 T x w v sn f y) (hI : wI σ) (hc : c ≤ 7) : pr_M g l 8 0 0 mX7_inState [.ref x, .int (nI c)] T (ws_put I w σ) L (pr_R (some (.int (fx_inState_r σ c))) T (ws_put I w σ) L) pr_no := by
  refine pr_ofG (by decide) rfl hl (Nat.le_of_ble_eq_true rfl) (fun X hA hX hXn hXt => ?_)
  subst hX
  show pr_G g X mX7_inState.2.2.1 _ 0 0 0 [.ref x, .int (nI c)] [] T (ws_put I w σ) L
  have hl24 := wI_nl24 hI
  have hn5 := wI_n5 hI
  have hr4 := wI_nr4 hI
  have hn12 := wI_nn12 hI
  refine pr_iload_n hA dX7_inState_0 rfl ?_
  refine pr_iconst hA (0) dX7_inState_1 (by decide) ?_
  refine pr_bipush hA (7) dX7_inState_2 (by decide) ?_
  refine pr_callSv hA [.int (nI c), .int (0 : Int32), .int (7 : Int32)] (c_rr_ok (pr_hl hA) (nI_r0 (b := 7) (by omega) (by decide)).1 (nI_r0 (b := 7) (by omega) (by decide)).2) s_X7_86 rfl (by decide) (Nat.zero_le _) (Nat.zero_le _) rfl (Nat.le_of_ble_eq_true rfl) dX7_inState_4 ?_
  refine pr_aload_n hA dX7_inState_7 rfl ?_
  refine pr_getR hA f_X7_10 rfl (tx_k hx) (tx_0 hx) dX7_inState_8 ?_
  refine pr_getR hA f_X7_131 rfl (wk_0 hw) (wf_0_2 hw) dX7_inState_11 ?_
  refine pr_iload_n hA dX7_inState_14 rfl ?_
  have hv15 : wI σ := hI
  refine pr_callVi hA [.int (nI c)] (c_rq_cnt (w := w) (σ := σ) (nr := (rqn σ)) (s := (nI c)) (pr_hl hA) hw (wI_nr hv15) (wI_nr4 hv15)) v_X7_172 (wk_18 hw) (by decide) rfl rfl rfl (by decide) (Nat.zero_le _) (Nat.zero_le _) rfl (Nat.le_of_ble_eq_true rfl) dX7_inState_15 ?_
  exact pr_ireturn hA rfl rfl (Nat.zero_le _) (Nat.zero_le _) dX7_inState_18 ⟨rfl, rfl, rfl, rfl⟩

noncomputable def fx_requestInState_r (σ : pr_I) (c : Nat) (i : Int32) : Int32 := (rq_nw_r σ (rqn σ) (nI c) i)
noncomputable def fx_ticketCount_r (σ : pr_I) : Int32 := (nI (tkn σ))
set_option maxRecDepth 100000 in
set_option maxHeartbeats 400000 in
theorem c_fx_ticketCount {g : pr_C} {l : Launch} (hl : l.stackTraces = false) {T : pr_T} {I : pr_I} {L : pr_L} {w : Nat} {σ : pr_I}  (hw : pr_W T w) {x v sn f y : Nat} (hx : pr_X7 T x w v sn f y) (hI : wI σ) : pr_M g l 8 0 0 mX7_ticketCount [.ref x] T (ws_put I w σ) L (pr_R (some (.int (fx_ticketCount_r σ))) T (ws_put I w σ) L) pr_no := by
  refine pr_ofG (by decide) rfl hl (Nat.le_of_ble_eq_true rfl) (fun X hA hX hXn hXt => ?_)
  subst hX
  show pr_G g X mX7_ticketCount.2.2.1 _ 0 0 0 [.ref x] [] T (ws_put I w σ) L
  have hl24 := wI_nl24 hI
  have hn5 := wI_n5 hI
  have hr4 := wI_nr4 hI
  have hn12 := wI_nn12 hI
  refine pr_aload_n hA dX7_ticketCount_0 rfl ?_
  refine pr_getR hA f_X7_10 rfl (tx_k hx) (tx_0 hx) dX7_ticketCount_1 ?_
  refine pr_getR hA f_X7_147 rfl (wk_0 hw) (wf_0_1 hw) dX7_ticketCount_4 ?_
  refine pr_getE (v := (nI (tkn σ))) hA f_X7_178 rfl (wk_9 hw) ((ws_val (by decide)).trans (wI_n hI)) dX7_ticketCount_7 ?_
  exact pr_ireturn hA rfl rfl (Nat.zero_le _) (Nat.zero_le _) dX7_ticketCount_10 ⟨rfl, rfl, rfl, rfl⟩

noncomputable def fx_ticketValue_r (σ : pr_I) (k : Nat) (c : Nat) : Int32 := (tk_val σ k c)
set_option maxRecDepth 100000 in
set_option maxHeartbeats 400000 in
theorem c_fx_ticketValue {g : pr_C} {l : Launch} (hl : l.stackTraces = false) {T : pr_T} {I : pr_I} {L : pr_L} {w : Nat} {σ : pr_I} {k : Nat} {c : Nat} (hw : pr_W T w) {x v sn f y : Nat} (hx : pr_X7 T x w v sn f y) (hI : wI σ) (hk : k < tkn σ) (hc : c ≤ 7) : pr_M g l 8 0 0 mX7_ticketValue [.ref x, .int (nI k), .int (nI c)] T (ws_put I w σ) L (pr_R (some (.int (fx_ticketValue_r σ k c))) T (ws_put I w σ) L) pr_no := by
  refine pr_ofG (by decide) rfl hl (Nat.le_of_ble_eq_true rfl) (fun X hA hX hXn hXt => ?_)
  subst hX
  show pr_G g X mX7_ticketValue.2.2.1 _ 0 0 0 [.ref x, .int (nI k), .int (nI c)] [] T (ws_put I w σ) L
  have hl24 := wI_nl24 hI
  have hn5 := wI_n5 hI
  have hr4 := wI_nr4 hI
  have hn12 := wI_nn12 hI
  refine pr_iload_n hA dX7_ticketValue_0 rfl ?_
  refine pr_aload_n hA dX7_ticketValue_1 rfl ?_
  refine pr_getR hA f_X7_10 rfl (tx_k hx) (tx_0 hx) dX7_ticketValue_2 ?_
  refine pr_getR hA f_X7_147 rfl (wk_0 hw) (wf_0_1 hw) dX7_ticketValue_5 ?_
  refine pr_getE (v := (nI (tkn σ))) hA f_X7_178 rfl (wk_9 hw) ((ws_val (by decide)).trans (wI_n hI)) dX7_ticketValue_8 ?_
  refine pr_callSv hA [.int (nI k), .int (nI (tkn σ))] (c_ri_ok (pr_hl hA) (by omega) (by omega)) s_X7_74 rfl (by decide) (Nat.zero_le _) (Nat.zero_le _) rfl (Nat.le_of_ble_eq_true rfl) dX7_ticketValue_11 ?_
  refine pr_iload_n hA dX7_ticketValue_14 rfl ?_
  refine pr_iconst hA (0) dX7_ticketValue_15 (by decide) ?_
  refine pr_bipush hA (7) dX7_ticketValue_16 (by decide) ?_
  refine pr_callSv hA [.int (nI c), .int (0 : Int32), .int (7 : Int32)] (c_rr_ok (pr_hl hA) (nI_r0 (b := 7) (by omega) (by decide)).1 (nI_r0 (b := 7) (by omega) (by decide)).2) s_X7_86 rfl (by decide) (Nat.zero_le _) (Nat.zero_le _) rfl (Nat.le_of_ble_eq_true rfl) dX7_ticketValue_18 ?_
  refine pr_aload_n hA dX7_ticketValue_21 rfl ?_
  refine pr_getR hA f_X7_10 rfl (tx_k hx) (tx_0 hx) dX7_ticketValue_22 ?_
  refine pr_getR hA f_X7_147 rfl (wk_0 hw) (wf_0_1 hw) dX7_ticketValue_25 ?_
  refine pr_iload_n hA dX7_ticketValue_28 rfl ?_
  refine pr_iload_n hA dX7_ticketValue_29 rfl ?_
  refine pr_callVi hA [.int (nI k), .int (nI c)] (c_tvalue (pr_hl hA) hw (by omega) (by omega)) v_X7_179 (wk_9 hw) (by decide) rfl rfl rfl (by decide) (Nat.zero_le _) (Nat.zero_le _) rfl (Nat.le_of_ble_eq_true rfl) dX7_ticketValue_30 ?_
  exact pr_ireturn hA rfl rfl (Nat.zero_le _) (Nat.zero_le _) dX7_ticketValue_33 ⟨rfl, rfl, rfl, rfl⟩

noncomputable def fx_ticketOn_r (σ : pr_I) (k : Nat) (i : Int32) : Int32 := (tk_on σ (nI k) i (tkn σ) 0 0)
set_option maxRecDepth 100000 in
set_option maxHeartbeats 400000 in
theorem c_fx_ticketOn {g : pr_C} {l : Launch} (hl : l.stackTraces = false) {T : pr_T} {I : pr_I} {L : pr_L} {w : Nat} {σ : pr_I} {k : Nat} {i : Int32} (hw : pr_W T w) {x v sn f y : Nat} (hx : pr_X7 T x w v sn f y) (hI : wI σ) (hk : k < lkn σ) : pr_M g l 8 0 0 mX7_ticketOn [.ref x, .int (nI k), .int i] T (ws_put I w σ) L (pr_R (some (.int (fx_ticketOn_r σ k i))) T (ws_put I w σ) L) pr_no := by
  refine pr_ofG (by decide) rfl hl (Nat.le_of_ble_eq_true rfl) (fun X hA hX hXn hXt => ?_)
  subst hX
  show pr_G g X mX7_ticketOn.2.2.1 _ 0 0 0 [.ref x, .int (nI k), .int i] [] T (ws_put I w σ) L
  have hl24 := wI_nl24 hI
  have hn5 := wI_n5 hI
  have hr4 := wI_nr4 hI
  have hn12 := wI_nn12 hI
  refine pr_iload_n hA dX7_ticketOn_0 rfl ?_
  refine pr_aload_n hA dX7_ticketOn_1 rfl ?_
  refine pr_getR hA f_X7_10 rfl (tx_k hx) (tx_0 hx) dX7_ticketOn_2 ?_
  refine pr_getR hA f_X7_55 rfl (wk_0 hw) (wf_0_0 hw) dX7_ticketOn_5 ?_
  refine pr_getE (v := (nI (lkn σ))) hA f_X7_59 rfl (wk_1 hw) ((ws_val (by decide)).trans (wI_nl hI)) dX7_ticketOn_8 ?_
  refine pr_callSv hA [.int (nI k), .int (nI (lkn σ))] (c_ri_ok (pr_hl hA) (by omega) (by omega)) s_X7_74 rfl (by decide) (Nat.zero_le _) (Nat.zero_le _) rfl (Nat.le_of_ble_eq_true rfl) dX7_ticketOn_11 ?_
  refine pr_aload_n hA dX7_ticketOn_14 rfl ?_
  refine pr_getR hA f_X7_10 rfl (tx_k hx) (tx_0 hx) dX7_ticketOn_15 ?_
  refine pr_getR hA f_X7_147 rfl (wk_0 hw) (wf_0_1 hw) dX7_ticketOn_18 ?_
  refine pr_iload_n hA dX7_ticketOn_21 rfl ?_
  refine pr_iload_n hA dX7_ticketOn_22 rfl ?_
  refine pr_callVi hA [.int (nI k), .int i] (c_promisedOn (pr_hl hA) (wI_n hI) (by omega) hw) v_X7_180 (wk_9 hw) (by decide) rfl rfl rfl (by decide) (Nat.zero_le _) (Nat.zero_le _) rfl (Nat.le_of_ble_eq_true rfl) dX7_ticketOn_23 ?_
  exact pr_ireturn hA rfl rfl (Nat.zero_le _) (Nat.zero_le _) dX7_ticketOn_26 ⟨rfl, rfl, rfl, rfl⟩

noncomputable def fx_ticketsOf_r (σ : pr_I) (k : Nat) (c : Nat) : Int32 := (tk_cnt σ (nI k) (nI c) (tkn σ))
noncomputable def fx_revenue_r (σ : pr_I) : Int64 := (w_rev_r σ)
set_option maxRecDepth 100000 in
set_option maxHeartbeats 400000 in
theorem c_fx_revenue {g : pr_C} {l : Launch} (hl : l.stackTraces = false) {T : pr_T} {I : pr_I} {L : pr_L} {w : Nat} {σ : pr_I}  (hw : pr_W T w) {x v sn f y : Nat} (hx : pr_X7 T x w v sn f y) (hI : wI σ) : pr_M g l 8 0 0 mX7_revenue [.ref x] T (ws_put I w σ) L (pr_R (some (.long (fx_revenue_r σ))) T (ws_put I w σ) L) pr_no := by
  refine pr_ofG (by decide) rfl hl (Nat.le_of_ble_eq_true rfl) (fun X hA hX hXn hXt => ?_)
  subst hX
  show pr_G g X mX7_revenue.2.2.1 _ 0 0 0 [.ref x] [] T (ws_put I w σ) L
  have hl24 := wI_nl24 hI
  have hn5 := wI_n5 hI
  have hr4 := wI_nr4 hI
  have hn12 := wI_nn12 hI
  refine pr_aload_n hA dX7_revenue_0 rfl ?_
  refine pr_getR hA f_X7_10 rfl (tx_k hx) (tx_0 hx) dX7_revenue_1 ?_
  have hv4 : wI σ := hI
  refine pr_callVl hA [] (c_w_rev (w := w) (σ := σ) (pr_hl hA) hw hv4) v_X7_185 (wk_0 hw) (by decide) rfl rfl rfl (by decide) (Nat.zero_le _) (Nat.zero_le _) rfl (Nat.le_of_ble_eq_true rfl) dX7_revenue_4 ?_
  exact pr_lreturn hA rfl (Nat.zero_le _) (Nat.zero_le _) dX7_revenue_7 ⟨rfl, rfl, rfl, rfl⟩

noncomputable def fx_refunds_r (σ : pr_I) : Int64 := (rq_tot_ref_r σ (rqn σ))
noncomputable def fx_nextExpiry_r (σ : pr_I) : Int32 := (tk_fe σ (tkn σ))
noncomputable def fx_nextEvent_r (σ : pr_I) : Int32 := (w_next_r σ (tkn σ) (rqn σ))
set_option maxRecDepth 100000 in
set_option maxHeartbeats 400000 in
theorem c_fx_nextEvent {g : pr_C} {l : Launch} (hl : l.stackTraces = false) {T : pr_T} {I : pr_I} {L : pr_L} {w : Nat} {σ : pr_I}  (hw : pr_W T w) {x v sn f y : Nat} (hx : pr_X7 T x w v sn f y) (hI : wI σ) : pr_M g l 8 0 0 mX7_nextEvent [.ref x] T (ws_put I w σ) L (pr_R (some (.int (fx_nextEvent_r σ))) T (ws_put I w σ) L) pr_no := by
  refine pr_ofG (by decide) rfl hl (Nat.le_of_ble_eq_true rfl) (fun X hA hX hXn hXt => ?_)
  subst hX
  show pr_G g X mX7_nextEvent.2.2.1 _ 0 0 0 [.ref x] [] T (ws_put I w σ) L
  have hl24 := wI_nl24 hI
  have hn5 := wI_n5 hI
  have hr4 := wI_nr4 hI
  have hn12 := wI_nn12 hI
  refine pr_aload_n hA dX7_nextEvent_0 rfl ?_
  refine pr_getR hA f_X7_10 rfl (tx_k hx) (tx_0 hx) dX7_nextEvent_1 ?_
  have hv4 : wI σ := hI
  refine pr_callVi hA [] (c_w_next (w := w) (σ := σ) (n := (tkn σ)) (nr := (rqn σ)) (pr_hl hA) hw (wI_n hv4) (wI_n5 hv4) (wI_nr hv4) (wI_nr4 hv4)) v_X7_199 (wk_0 hw) (by decide) rfl rfl rfl (by decide) (Nat.zero_le _) (Nat.zero_le _) rfl (Nat.le_of_ble_eq_true rfl) dX7_nextEvent_4 ?_
  exact pr_ireturn hA rfl rfl (Nat.zero_le _) (Nat.zero_le _) dX7_nextEvent_7 ⟨rfl, rfl, rfl, rfl⟩

