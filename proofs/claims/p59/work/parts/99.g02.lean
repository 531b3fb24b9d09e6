/-! THE SAME CONTRACTS, one level of calls fewer -/
set_option maxRecDepth 100000 in
set_option maxHeartbeats 400000 in
theorem c_fx_greatestNew2 {g : pr_C} {l : Launch} (hl : l.stackTraces = false) {T : pr_T} {I : pr_I} {L : pr_L} {v w : Nat} {σ τ : pr_I} {s t : Nat} (hv : pr_W T v) {x sn f y : Nat} (hx : pr_X7 T x w v sn f y) (hw : pr_W T w) (hdis : v + 121 ≤ w ∨ w + 121 ≤ v) (hI : wI σ) (hW : wI τ) (hs : s < ndn τ) (ht : t < ndn τ) (hst : s ≠ t) : pr_M g l 11 0 0 mX7_greatestNew [.ref x, .int (nI s), .int (nI t)] T (ws_put (ws_put I w τ) v σ) L (pr_R (some (.int (fx_greatestNew_r σ τ s t))) T (ws_put (ws_put I w τ) v (fx_greatestNew σ τ s t)) (l_cp L w v)) pr_no := by
  refine pr_ofG (by decide) rfl hl (Nat.le_of_ble_eq_true rfl) (fun X hA hX hXn hXt => ?_)
  subst hX
  show pr_G g X mX7_greatestNew.2.2.1 _ 0 0 0 [.ref x, .int (nI s), .int (nI t), .null, .null] [] T (ws_put (ws_put I w τ) v σ) L
  have hl24 := wI_nl24 hW
  have hn12 := wI_nn12 hW
  have hr4 := wI_nr4 hW
  have hs1 : vp_in (nI s) 12 := nI_vin (by omega) (by decide)
  have ht1 : vp_in (nI t) 12 := nI_vin (by omega) (by decide)
  have hsl := sl_eq 10
  have hwv : w ≠ v := by omega
  obtain ⟨R, hR0⟩ : ∃ R, gn_rl τ s t (sl 10) σ = R := ⟨_, rfl⟩
  refine pr_aload_n hA dX7_greatestNew_0 rfl ?_
  refine pr_iload_n hA dX7_greatestNew_1 rfl ?_
  refine pr_iload_n hA dX7_greatestNew_2 rfl ?_
  refine pr_gI (I' := (ws_put (ws_put I v σ) w τ)) (ws_swap (by omega)) ?_
  refine pr_callVv hA [.int (nI s), .int (nI t)] (c_fx_rp (w := w) (σ := τ) (pr_hl hA) hw hx hW (by omega) (by omega) (by omega)) v_X7_124 (tx_k hx) (by decide) rfl rfl rfl (by decide) (Nat.zero_le _) (Nat.zero_le _) rfl (Nat.le_of_ble_eq_true rfl) dX7_greatestNew_3 ?_
  refine pr_gI (I' := (ws_put (ws_put I w τ) v σ)) (ws_swap (by omega)) ?_
  refine pr_sipush hA (512) dX7_greatestNew_6 (by decide) ?_
  refine pr_istore_n (ls' := [_, _, _, _, _]) hA dX7_greatestNew_9 (by decide) rfl ?_
  have lp10 : ∀ (j : Nat) (σ1 : pr_I) (L1 : pr_L), j ≤ 10 → wI σ1 → l_cp L1 w v = l_cp L w v → (j = 0 → L1 = l_cp L w v) → gn_rl τ s t j σ1 = R → pr_G g X mX7_greatestNew.2.2.1 (pr_MQ g X (pr_R (some (.int (fx_greatestNew_r σ τ s t))) T (ws_put (ws_put I w τ) v (fx_greatestNew σ τ s t)) (l_cp L w v)) pr_no 0 0) 0 0 10 [.ref x, .int (nI s), .int (nI t), .int (gw j), .null] [] T (ws_put (ws_put I w τ) v σ1) L1 := by
    intro j
    induction j using Nat.strongRecOn with | ind j ih =>
    intro σ1 L1 hj hI hL hE hR
    refine pr_iload_n hA dX7_greatestNew_10 rfl ?_
    refine pr_iconst hA (1) dX7_greatestNew_11 (by decide) ?_
    refine pr_icmp_lt hA 71 dX7_greatestNew_12 (by decide) (fun c_12 => ?_) (fun c_12 => ?_)
    · refine pr_iconst hA ((-1)) dX7_greatestNew_71 (by decide) ?_
      have hj0 := gw_1 hj c_12
      subst hj0
      rw [hE rfl]
      simp only [gn_rl] at hR
      exact pr_ireturn hA rfl rfl (Nat.zero_le _) (Nat.zero_le _) dX7_greatestNew_72 ⟨by rw [fx_greatestNew_r, hR0, ← hR], rfl, by rw [fx_greatestNew, hR0, ← hR], rfl⟩
    · refine pr_aload_n hA dX7_greatestNew_15 rfl ?_
      refine pr_getR hA f_X7_16 rfl (tx_k hx) (tx_1 hx) dX7_greatestNew_16 ?_
      refine pr_aload_n hA dX7_greatestNew_19 rfl ?_
      refine pr_getR hA f_X7_10 rfl (tx_k hx) (tx_0 hx) dX7_greatestNew_20 ?_
      refine pr_callVv hA [.ref w] (c_w_cpE (w := v) (v := w) (σ := σ1) (τ := τ) (pr_hl hA) hv hw (by omega) hW) v_X7_52 (wk_0 hv) (by decide) rfl rfl rfl (by decide) (Nat.zero_le _) (Nat.zero_le _) rfl (Nat.le_of_ble_eq_true rfl) dX7_greatestNew_23 ?_
      refine pr_aload_n hA dX7_greatestNew_26 rfl ?_
      refine pr_getR hA f_X7_16 rfl (tx_k hx) (tx_1 hx) dX7_greatestNew_27 ?_
      refine pr_iload_n hA dX7_greatestNew_30 rfl ?_
      refine pr_iload_n hA dX7_greatestNew_31 rfl ?_
      refine pr_iload_n hA dX7_greatestNew_32 rfl ?_
      refine pr_iconst hA (1) dX7_greatestNew_33 (by decide) ?_
      have hv34 : wI (w_cp σ1 τ (lkn τ) (tkn τ) (rqn τ)) := (wI_w_cp hI hW (wI_nl24 hW) (wI_n5 hW) (wI_nr4 hW))
      refine pr_callVi hA [.int (nI s), .int (nI t), .int (gw j), .int (1 : Int32)] (c_w_mk (w := v) (σ := (w_cp σ1 τ (lkn τ) (tkn τ) (rqn τ))) (s := (nI s)) (t := (nI t)) (u := (gw j)) (q := (1 : Int32)) (pr_hl hA) hv hv34 hs1 ht1) v_X7_127 (wk_0 hv) (by decide) rfl rfl rfl (by decide) (Nat.zero_le _) (Nat.zero_le _) rfl (Nat.le_of_ble_eq_true rfl) dX7_greatestNew_34 ?_
      refine pr_istore (ls' := [_, _, _, _, _]) hA dX7_greatestNew_37 (by decide) rfl ?_
      refine pr_iload hA dX7_greatestNew_39 rfl ?_
      refine pr_bipush hA ((-2)) dX7_greatestNew_41 (by decide) ?_
      refine pr_icmp_ne hA 49 dX7_greatestNew_43 (by decide) (fun c_43 => ?_) (fun c_43 => ?_)
      · refine pr_aload_n hA dX7_greatestNew_49 rfl ?_
        refine pr_getR hA f_X7_16 rfl (tx_k hx) (tx_1 hx) dX7_greatestNew_50 ?_
        refine pr_iload hA dX7_greatestNew_53 rfl ?_
        rw [show (w_mk_r (w_cp σ1 τ (lkn τ) (tkn τ) (rqn τ)) (nI s) (nI t) (gw j) (1 : Int32)) = (nI (rqn (w_cp σ1 τ (lkn τ) (tkn τ) (rqn τ)))) from (w_mk_40 c_43).1]
        have hv55 : wI (w_mk (w_cp σ1 τ (lkn τ) (tkn τ) (rqn τ)) (nI s) (nI t) (gw j) (1 : Int32)) := (wI_w_mk (σ := (w_cp σ1 τ (lkn τ) (tkn τ) (rqn τ))) hs1 ht1 (wI_w_cp hI hW (wI_nl24 hW) (wI_n5 hW) (wI_nr4 hW)))
        refine pr_callVi hA [.int (nI (rqn (w_cp σ1 τ (lkn τ) (tkn τ) (rqn τ))))] (c_w_pa (w := v) (σ := (w_mk (w_cp σ1 τ (lkn τ) (tkn τ) (rqn τ)) (nI s) (nI t) (gw j) (1 : Int32))) (r := (rqn (w_cp σ1 τ (lkn τ) (tkn τ) (rqn τ)))) (pr_hl hA) hv hv55 ((nI_ltI (by have := wI_nr4 (wI_w_cp hI hW (wI_nl24 hW) (wI_n5 hW) (wI_nr4 hW)); omega) (by decide)).mp (w_mk_40 c_43).2)) v_X7_259 (wk_0 hv) (by decide) rfl rfl rfl (by decide) (Nat.zero_le _) (Nat.zero_le _) rfl (Nat.le_of_ble_eq_true rfl) dX7_greatestNew_55 ?_
        refine pr_iconst hA ((-1)) dX7_greatestNew_58 (by decide) ?_
        refine pr_icmp_eq hA 64 dX7_greatestNew_59 (by decide) (fun c_59 => ?_) (fun c_59 => ?_)
        · refine pr_iload_n hA dX7_greatestNew_64 rfl ?_
          refine pr_iconst hA (2) dX7_greatestNew_65 (by decide) ?_
          refine pr_idiv hA dX7_greatestNew_66 (by decide) ?_
          rw [show ((gw j) / (2 : Int32)) = (gw (j - 1)) from (gw_d hj c_12)]
          refine pr_istore_n (ls' := [_, _, _, _, _]) hA dX7_greatestNew_67 (by decide) rfl ?_
          refine pr_goto hA 10 dX7_greatestNew_68 (by decide) ?_
          rw [gn_eq (gw_2 c_12)] at hR
          unfold wcp at hR
          simp only [if_neg c_43, if_pos c_59] at hR
          exact pr_lessL (ls' := [.ref x, .int (nI s), .int (nI t), .int (gw (j - 1)), .null]) ⟨.inr rfl, .inr rfl, .inr rfl, .inr rfl, .inl rfl, trivial⟩ (ih (j - 1) (by have := gw_2 c_12; omega) _ _ (by omega) (wI_w_pa (wI_w_mk hs1 ht1 (wI_w_cp hI hW (wI_nl24 hW) (wI_n5 hW) (wI_nr4 hW)))) ((congrArg (fun z => l_cp z w v) hL).trans (l_cp_two hwv)) (fun _ => hL) hR)
        · refine pr_iload_n hA dX7_greatestNew_62 rfl ?_
          rw [gn_eq (gw_2 c_12)] at hR
          unfold wcp at hR
          rw [hL]
          simp only [if_neg c_43, if_neg c_59] at hR
          exact pr_ireturn hA rfl rfl (Nat.zero_le _) (Nat.zero_le _) dX7_greatestNew_63 ⟨by rw [fx_greatestNew_r, hR0, ← hR], rfl, by rw [fx_greatestNew, hR0, ← hR], rfl⟩
      · refine pr_bipush hA ((-2)) dX7_greatestNew_46 (by decide) ?_
        rw [gn_eq (gw_2 c_12)] at hR
        unfold wcp at hR
        rw [hL]
        simp only [if_pos c_43] at hR
        exact pr_ireturn hA rfl rfl (Nat.zero_le _) (Nat.zero_le _) dX7_greatestNew_48 ⟨by rw [fx_greatestNew_r, hR0, ← hR], rfl, by rw [fx_greatestNew, hR0, ← hR], rfl⟩
  exact (by have h0 := lp10 (sl 10) _ _ (by omega) hI rfl (fun h => by omega) hR0; rw [show gw (sl 10) = (512 : Int32) from by rw [sl_eq]; decide] at h0; exact h0)