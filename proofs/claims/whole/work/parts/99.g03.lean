/-! WHAT THE FACES REFUSE -/
section THR
variable {g : pr_C} {X : pr_X} {M : pr_MD} {d mc ms : Nat} {nL : Nat} {pc : Nat} {ls : List Value} {T : pr_T} {I : pr_I} {L : pr_L}
theorem pr_thS (hA : pr_Am g X M d 1 6) (htab : pr_table X = []) (hnL : nL = M.2.2.1) {index n d' : Nat} {M' : pr_MD} {As stk : List Value} {E : String} (hM : pr_M g (pr_launch X) d' 1 6 M' As T I L pr_nv (pr_Th E T I L)) (hc : pr_cS M.1.cls index M' n) (hn : As.length = n) (hdd : d' + 1 ≤ d) (hstk : stk = As.reverse) (hd : decode M.2.1 pc = .ok (.invokestatic index, 3)) : pr_G g X nL (pr_MQ g X pr_nv (pr_Th E T I L) 1 6) 0 0 pc ls stk T I L :=
  pr_callS hA hnL hM hc hn hdd (by decide) (by decide) (st := []) (by rw [hstk, List.append_nil]) (by decide) hd (fun v T' I' L' h => h.elim) (fun E' T' I' L' h => pr_out hA htab (by decide) (by decide) h)
theorem pr_thV (hA : pr_Am g X M d 1 6) (htab : pr_table X = []) (hnL : nL = M.2.2.1) {index ci b n d' : Nat} {M' : pr_MD} {As stk : List Value} {q0 : vw_C} {z0 : Nat} {E : String} (hM : pr_M g (pr_launch X) d' 1 6 M' (.ref b :: As) T I L pr_nv (pr_Th E T I L)) (hc : pr_cV M.1.cls index M' n) (hb : T.2.1 b = (ci, z0)) (hci : ci < 9) (hq : vwCl[ci]? = some q0) (hq1 : q0.1 = M'.1.cls) (hn : As.length = n) (hdd : d' + 1 ≤ d) (hstk : stk = As.reverse ++ [.ref b]) (hd : decode M.2.1 pc = .ok (.invokevirtual index, 3)) : pr_G g X nL (pr_MQ g X pr_nv (pr_Th E T I L) 1 6) 0 0 pc ls stk T I L :=
  pr_callV hA hnL hM hc hb hci hq hq1 hn hdd (by decide) (by decide) (st := []) hstk (by decide) hd (fun v T' I' L' h => h.elim) (fun E' T' I' L' h => pr_out hA htab (by decide) (by decide) h)
end THR
set_option maxRecDepth 100000 in
theorem c_rp_ok2 {g : pr_C} {l : Launch} (hl : l.stackTraces = false) {T : pr_T} {I : pr_I} {L : pr_L} {w : Nat} {σ : pr_I} (hw : pr_W T w) {x v sn f y : Nat} (hx : pr_X7 T x w v sn f y) {a b : Int32} (h1 : ¬ a < 0) (h2 : a < σ 0 6) (h3 : ¬ b < 0) (h4 : b < σ 0 6) (h5 : a ≠ b) : pr_M g l 3 0 0 mX7_requirePair [.ref x, .int a, .int b] T (ws_put I w σ) L (pr_R none T (ws_put I w σ) L) pr_no := by
  refine pr_ofG (by decide) rfl hl (Nat.le_of_ble_eq_true rfl) (fun X hA hX hXn hXt => ?_)
  subst hX
  show pr_G g X mX7_requirePair.2.2.1 _ 0 0 0 [.ref x, .int a, .int b] [] T (ws_put I w σ) L
  refine pr_iload_n hA dX7_requirePair_0 rfl ?_
  refine pr_aload_n hA dX7_requirePair_1 rfl ?_
  refine pr_getR hA f_X7_10 rfl (tx_k hx) (tx_0 hx) dX7_requirePair_2 ?_
  refine pr_getE (v := σ 0 6) hA f_X7_71 rfl (wk_0 hw) ws_val0 dX7_requirePair_5 ?_
  refine pr_callSv hA [.int a, .int (σ 0 6)] (c_ri_ok2 (pr_hl hA) h1 h2) s_X7_74 rfl (by decide) (Nat.zero_le _) (Nat.zero_le _) rfl (Nat.le_of_ble_eq_true rfl) dX7_requirePair_8 ?_
  refine pr_iload_n hA dX7_requirePair_11 rfl ?_
  refine pr_aload_n hA dX7_requirePair_12 rfl ?_
  refine pr_getR hA f_X7_10 rfl (tx_k hx) (tx_0 hx) dX7_requirePair_13 ?_
  refine pr_getE (v := σ 0 6) hA f_X7_71 rfl (wk_0 hw) ws_val0 dX7_requirePair_16 ?_
  refine pr_callSv hA [.int b, .int (σ 0 6)] (c_ri_ok2 (pr_hl hA) h3 h4) s_X7_74 rfl (by decide) (Nat.zero_le _) (Nat.zero_le _) rfl (Nat.le_of_ble_eq_true rfl) dX7_requirePair_19 ?_
  refine pr_iload_n hA dX7_requirePair_22 rfl ?_
  refine pr_iload_n hA dX7_requirePair_23 rfl ?_
  refine pr_icmp_ne hA 38 dX7_requirePair_24 (by decide) (fun c_24 => ?_) (fun c_24 => ?_)
  · exact pr_return hA rfl (Nat.zero_le _) (Nat.zero_le _) dX7_requirePair_38 ⟨rfl, rfl, rfl, rfl⟩
  · exact absurd (by first | exact c_24 | exact Decidable.not_not.mp c_24) h5
set_option maxRecDepth 100000 in
theorem c_rp_ti {g : pr_C} {l : Launch} (hl : l.stackTraces = false) {T : pr_T} {I : pr_I} {L : pr_L} {w : Nat} {σ : pr_I} (hw : pr_W T w) {x v sn f y : Nat} (hx : pr_X7 T x w v sn f y) {a b : Int32} (hf : (a < 0 ∨ ¬ a < σ 0 6) ∨ (b < 0 ∨ ¬ b < σ 0 6)) : pr_M g l 7 1 6 mX7_requirePair [.ref x, .int a, .int b] T (ws_put I w σ) L pr_nv (pr_Th eIOO T (ws_put I w σ) L) := by
  refine pr_ofG (by decide) rfl hl (Nat.le_of_ble_eq_true rfl) (fun X hA hX hXn hXt => ?_)
  subst hX
  show pr_G g X mX7_requirePair.2.2.1 _ 0 0 0 [.ref x, .int a, .int b] [] T (ws_put I w σ) L
  refine pr_iload_n hA dX7_requirePair_0 rfl ?_
  refine pr_aload_n hA dX7_requirePair_1 rfl ?_
  refine pr_getR hA f_X7_10 rfl (tx_k hx) (tx_0 hx) dX7_requirePair_2 ?_
  refine pr_getE (v := σ 0 6) hA f_X7_71 rfl (wk_0 hw) ws_val0 dX7_requirePair_5 ?_
  by_cases ha : a < 0 ∨ ¬ a < σ 0 6
  · exact pr_thS hA hXt rfl (c_ri_th (pr_hl hA) ha) s_X7_74 rfl (by decide) rfl dX7_requirePair_8
  have hb := hf.resolve_left ha
  have h1 : ¬ a < 0 := fun z => ha (Or.inl z)
  have h2 : a < σ 0 6 := Classical.byContradiction (fun z => ha (Or.inr z))
  refine pr_callSv hA [.int a, .int (σ 0 6)] (c_ri_ok2 (pr_hl hA) h1 h2) s_X7_74 rfl (by decide) (Nat.zero_le _) (Nat.zero_le _) rfl (Nat.le_of_ble_eq_true rfl) dX7_requirePair_8 ?_
  refine pr_iload_n hA dX7_requirePair_11 rfl ?_
  refine pr_aload_n hA dX7_requirePair_12 rfl ?_
  refine pr_getR hA f_X7_10 rfl (tx_k hx) (tx_0 hx) dX7_requirePair_13 ?_
  refine pr_getE (v := σ 0 6) hA f_X7_71 rfl (wk_0 hw) ws_val0 dX7_requirePair_16 ?_
  exact pr_thS hA hXt rfl (c_ri_th (pr_hl hA) hb) s_X7_74 rfl (by decide) rfl dX7_requirePair_19
set_option maxRecDepth 100000 in
theorem c_rp_tp {g : pr_C} {l : Launch} (hl : l.stackTraces = false) {T : pr_T} {I : pr_I} {L : pr_L} {w : Nat} {σ : pr_I} (hw : pr_W T w) {x v sn f y : Nat} (hx : pr_X7 T x w v sn f y) {a b : Int32} (h1 : ¬ a < 0) (h2 : a < σ 0 6) (h3 : ¬ b < 0) (h4 : b < σ 0 6) (h5 : a = b) : pr_M g l 7 1 6 mX7_requirePair [.ref x, .int a, .int b] T (ws_put I w σ) L pr_nv (pr_Th eIAE T (ws_put I w σ) L) := by
  refine pr_ofG (by decide) rfl hl (Nat.le_of_ble_eq_true rfl) (fun X hA hX hXn hXt => ?_)
  subst hX
  show pr_G g X mX7_requirePair.2.2.1 _ 0 0 0 [.ref x, .int a, .int b] [] T (ws_put I w σ) L
  refine pr_iload_n hA dX7_requirePair_0 rfl ?_
  refine pr_aload_n hA dX7_requirePair_1 rfl ?_
  refine pr_getR hA f_X7_10 rfl (tx_k hx) (tx_0 hx) dX7_requirePair_2 ?_
  refine pr_getE (v := σ 0 6) hA f_X7_71 rfl (wk_0 hw) ws_val0 dX7_requirePair_5 ?_
  refine pr_callSv hA [.int a, .int (σ 0 6)] (c_ri_ok2 (pr_hl hA) h1 h2) s_X7_74 rfl (by decide) (Nat.zero_le _) (Nat.zero_le _) rfl (Nat.le_of_ble_eq_true rfl) dX7_requirePair_8 ?_
  refine pr_iload_n hA dX7_requirePair_11 rfl ?_
  refine pr_aload_n hA dX7_requirePair_12 rfl ?_
  refine pr_getR hA f_X7_10 rfl (tx_k hx) (tx_0 hx) dX7_requirePair_13 ?_
  refine pr_getE (v := σ 0 6) hA f_X7_71 rfl (wk_0 hw) ws_val0 dX7_requirePair_16 ?_
  refine pr_callSv hA [.int b, .int (σ 0 6)] (c_ri_ok2 (pr_hl hA) h3 h4) s_X7_74 rfl (by decide) (Nat.zero_le _) (Nat.zero_le _) rfl (Nat.le_of_ble_eq_true rfl) dX7_requirePair_19 ?_
  refine pr_iload_n hA dX7_requirePair_22 rfl ?_
  refine pr_iload_n hA dX7_requirePair_23 rfl ?_
  refine pr_icmp_ne hA 38 dX7_requirePair_24 (by decide) (fun c_24 => ?_) (fun c_24 => ?_)
  · exact absurd h5 c_24
  · exact pr_throwW hA hXt rfl thw_p (by decide) rfl (by decide) (by decide) (by decide) dX7_requirePair_27 dX7_requirePair_30 dX7_requirePair_31 dX7_requirePair_34 dX7_requirePair_37 (fun N hN => ⟨rfl, ⟨N, hN, rfl⟩, rfl, rfl⟩)
theorem t_findPath_0i {g : pr_C} {l : Launch} (hl : l.stackTraces = false) {T : pr_T} {I : pr_I} {L : pr_L} {w : Nat} {σ : pr_I} (hw : pr_W T w) {x v sn f y : Nat} (hx : pr_X7 T x w v sn f y) {p1 p2 p3 : Int32}  (hf : (p1 < 0 ∨ ¬ p1 < σ 0 6) ∨ (p2 < 0 ∨ ¬ p2 < σ 0 6)) : pr_M g l 8 1 6 mX7_findPath [.ref x, .int p1, .int p2, .int p3] T (ws_put I w σ) L pr_nv (pr_Th eIOO T (ws_put I w σ) L) := by
  refine pr_ofG (by decide) rfl hl (Nat.le_of_ble_eq_true rfl) (fun X hA hX hXn hXt => ?_)
  subst hX
  show pr_G g X mX7_findPath.2.2.1 _ 0 0 0 [.ref x, .int p1, .int p2, .int p3] [] T (ws_put I w σ) L
  refine pr_aload_n hA dX7_findPath_0 rfl ?_
  refine pr_iload_n hA dX7_findPath_1 rfl ?_
  refine pr_iload_n hA dX7_findPath_2 rfl ?_
  exact pr_thV hA hXt rfl (c_rp_ti (pr_hl hA) hw hx hf) v_X7_124 (tx_k hx) (by decide) rfl rfl rfl (by decide) rfl dX7_findPath_3
theorem t_findPath_0p {g : pr_C} {l : Launch} (hl : l.stackTraces = false) {T : pr_T} {I : pr_I} {L : pr_L} {w : Nat} {σ : pr_I} (hw : pr_W T w) {x v sn f y : Nat} (hx : pr_X7 T x w v sn f y) {p1 p2 p3 : Int32}  (h1 : ¬ p1 < 0) (h2 : p1 < σ 0 6) (h3 : ¬ p2 < 0) (h4 : p2 < σ 0 6) (h5 : p1 = p2) : pr_M g l 8 1 6 mX7_findPath [.ref x, .int p1, .int p2, .int p3] T (ws_put I w σ) L pr_nv (pr_Th eIAE T (ws_put I w σ) L) := by
  refine pr_ofG (by decide) rfl hl (Nat.le_of_ble_eq_true rfl) (fun X hA hX hXn hXt => ?_)
  subst hX
  show pr_G g X mX7_findPath.2.2.1 _ 0 0 0 [.ref x, .int p1, .int p2, .int p3] [] T (ws_put I w σ) L
  refine pr_aload_n hA dX7_findPath_0 rfl ?_
  refine pr_iload_n hA dX7_findPath_1 rfl ?_
  refine pr_iload_n hA dX7_findPath_2 rfl ?_
  exact pr_thV hA hXt rfl (c_rp_tp (pr_hl hA) hw hx h1 h2 h3 h4 h5) v_X7_124 (tx_k hx) (by decide) rfl rfl rfl (by decide) rfl dX7_findPath_3
theorem t_findPath_1 {g : pr_C} {l : Launch} (hl : l.stackTraces = false) {T : pr_T} {I : pr_I} {L : pr_L} {w : Nat} {σ : pr_I} (hw : pr_W T w) {x v sn f y : Nat} (hx : pr_X7 T x w v sn f y) {p1 p2 p3 : Int32} (h0a : ¬ p1 < 0) (h0b : p1 < σ 0 6) (h0c : ¬ p2 < 0) (h0d : p2 < σ 0 6) (h0e : p1 ≠ p2) (hf : p3 < (0 : Int32) ∨ ¬ p3 ≤ (1000 : Int32)) : pr_M g l 8 1 6 mX7_findPath [.ref x, .int p1, .int p2, .int p3] T (ws_put I w σ) L pr_nv (pr_Th eIAE T (ws_put I w σ) L) := by
  refine pr_ofG (by decide) rfl hl (Nat.le_of_ble_eq_true rfl) (fun X hA hX hXn hXt => ?_)
  subst hX
  show pr_G g X mX7_findPath.2.2.1 _ 0 0 0 [.ref x, .int p1, .int p2, .int p3] [] T (ws_put I w σ) L
  refine pr_aload_n hA dX7_findPath_0 rfl ?_
  refine pr_iload_n hA dX7_findPath_1 rfl ?_
  refine pr_iload_n hA dX7_findPath_2 rfl ?_
  refine pr_callVv hA [.int p1, .int p2] (c_rp_ok2 (pr_hl hA) hw hx h0a h0b h0c h0d h0e) v_X7_124 (tx_k hx) (by decide) rfl rfl rfl (by decide) (Nat.zero_le _) (Nat.zero_le _) rfl (Nat.le_of_ble_eq_true rfl) dX7_findPath_3 ?_
  refine pr_iload_n hA dX7_findPath_6 rfl ?_
  refine pr_iconst hA (0) dX7_findPath_7 (by decide) ?_
  refine pr_sipush hA (1000) dX7_findPath_8 (by decide) ?_
  exact pr_thS hA hXt rfl (c_rr_th (pr_hl hA) hf) s_X7_86 rfl (by decide) rfl dX7_findPath_11
theorem t_activeWithout_0 {g : pr_C} {l : Launch} (hl : l.stackTraces = false) {T : pr_T} {I : pr_I} {L : pr_L} {w : Nat} {σ : pr_I} (hw : pr_W T w) {x v sn f y : Nat} (hx : pr_X7 T x w v sn f y) {p1 p2 : Int32}  (hf : p1 < 0 ∨ ¬ p1 < (σ 1 8)) : pr_M g l 9 1 6 mX7_activeWithout [.ref x, .int p1, .int p2] T (ws_put I w σ) L pr_nv (pr_Th eIOO T (ws_put I w σ) L) := by
  refine pr_ofG (by decide) rfl hl (Nat.le_of_ble_eq_true rfl) (fun X hA hX hXn hXt => ?_)
  subst hX
  show pr_G g X mX7_activeWithout.2.2.1 _ 0 0 0 [.ref x, .int p1, .int p2] [] T (ws_put I w σ) L
  refine pr_iload_n hA dX7_activeWithout_0 rfl ?_
  refine pr_aload_n hA dX7_activeWithout_1 rfl ?_
  refine pr_getR hA f_X7_10 rfl (tx_k hx) (tx_0 hx) dX7_activeWithout_2 ?_
  refine pr_getR hA f_X7_55 rfl (wk_0 hw) (wf_0_0 hw) dX7_activeWithout_5 ?_
  refine pr_getE (v := σ 1 8) hA f_X7_59 rfl (wk_1 hw) (ws_val (by decide)) dX7_activeWithout_8 ?_
  exact pr_thS hA hXt rfl (c_ri_th (pr_hl hA) hf) s_X7_74 rfl (by decide) rfl dX7_activeWithout_11
theorem t_activeWithout_1 {g : pr_C} {l : Launch} (hl : l.stackTraces = false) {T : pr_T} {I : pr_I} {L : pr_L} {w : Nat} {σ : pr_I} (hw : pr_W T w) {x v sn f y : Nat} (hx : pr_X7 T x w v sn f y) {p1 p2 : Int32} (h0a : ¬ p1 < 0) (h0b : p1 < (σ 1 8)) (hf : p2 < (0 : Int32) ∨ ¬ p2 ≤ (2000 : Int32)) : pr_M g l 9 1 6 mX7_activeWithout [.ref x, .int p1, .int p2] T (ws_put I w σ) L pr_nv (pr_Th eIAE T (ws_put I w σ) L) := by
  refine pr_ofG (by decide) rfl hl (Nat.le_of_ble_eq_true rfl) (fun X hA hX hXn hXt => ?_)
  subst hX
  show pr_G g X mX7_activeWithout.2.2.1 _ 0 0 0 [.ref x, .int p1, .int p2] [] T (ws_put I w σ) L
  refine pr_iload_n hA dX7_activeWithout_0 rfl ?_
  refine pr_aload_n hA dX7_activeWithout_1 rfl ?_
  refine pr_getR hA f_X7_10 rfl (tx_k hx) (tx_0 hx) dX7_activeWithout_2 ?_
  refine pr_getR hA f_X7_55 rfl (wk_0 hw) (wf_0_0 hw) dX7_activeWithout_5 ?_
  refine pr_getE (v := σ 1 8) hA f_X7_59 rfl (wk_1 hw) (ws_val (by decide)) dX7_activeWithout_8 ?_
  refine pr_callSv hA [.int p1, .int (σ 1 8)] (c_ri_ok2 (pr_hl hA) h0a h0b) s_X7_74 rfl (by decide) (Nat.zero_le _) (Nat.zero_le _) rfl (Nat.le_of_ble_eq_true rfl) dX7_activeWithout_11 ?_
  refine pr_iload_n hA dX7_activeWithout_14 rfl ?_
  refine pr_iconst hA (0) dX7_activeWithout_15 (by decide) ?_
  refine pr_sipush hA (2000) dX7_activeWithout_16 (by decide) ?_
  exact pr_thS hA hXt rfl (c_rr_th (pr_hl hA) hf) s_X7_86 rfl (by decide) rfl dX7_activeWithout_19
theorem t_advance_0 {g : pr_C} {l : Launch} (hl : l.stackTraces = false) {T : pr_T} {I : pr_I} {L : pr_L} {w : Nat} {σ : pr_I} (hw : pr_W T w) {x v sn f y : Nat} (hx : pr_X7 T x w v sn f y) {p1 : Int32}  (hf : p1 < (1 : Int32) ∨ ¬ p1 ≤ (1000 : Int32)) : pr_M g l 9 1 6 mX7_advance [.ref x, .int p1] T (ws_put I w σ) L pr_nv (pr_Th eIAE T (ws_put I w σ) L) := by
  refine pr_ofG (by decide) rfl hl (Nat.le_of_ble_eq_true rfl) (fun X hA hX hXn hXt => ?_)
  subst hX
  show pr_G g X mX7_advance.2.2.1 _ 0 0 0 [.ref x, .int p1] [] T (ws_put I w σ) L
  refine pr_iload_n hA dX7_advance_0 rfl ?_
  refine pr_iconst hA (1) dX7_advance_1 (by decide) ?_
  refine pr_sipush hA (1000) dX7_advance_2 (by decide) ?_
  exact pr_thS hA hXt rfl (c_rr_th (pr_hl hA) hf) s_X7_86 rfl (by decide) rfl dX7_advance_5
theorem t_availableAfter_0 {g : pr_C} {l : Launch} (hl : l.stackTraces = false) {T : pr_T} {I : pr_I} {L : pr_L} {w : Nat} {σ : pr_I} (hw : pr_W T w) {x v sn f y : Nat} (hx : pr_X7 T x w v sn f y) {p1 p2 : Int32}  (hf : p1 < 0 ∨ ¬ p1 < (σ 1 8)) : pr_M g l 9 1 6 mX7_availableAfter [.ref x, .int p1, .int p2] T (ws_put I w σ) L pr_nv (pr_Th eIOO T (ws_put I w σ) L) := by
  refine pr_ofG (by decide) rfl hl (Nat.le_of_ble_eq_true rfl) (fun X hA hX hXn hXt => ?_)
  subst hX
  show pr_G g X mX7_availableAfter.2.2.1 _ 0 0 0 [.ref x, .int p1, .int p2] [] T (ws_put I w σ) L
  refine pr_iload_n hA dX7_availableAfter_0 rfl ?_
  refine pr_aload_n hA dX7_availableAfter_1 rfl ?_
  refine pr_getR hA f_X7_10 rfl (tx_k hx) (tx_0 hx) dX7_availableAfter_2 ?_
  refine pr_getR hA f_X7_55 rfl (wk_0 hw) (wf_0_0 hw) dX7_availableAfter_5 ?_
  refine pr_getE (v := σ 1 8) hA f_X7_59 rfl (wk_1 hw) (ws_val (by decide)) dX7_availableAfter_8 ?_
  exact pr_thS hA hXt rfl (c_ri_th (pr_hl hA) hf) s_X7_74 rfl (by decide) rfl dX7_availableAfter_11
theorem t_availableAfter_1 {g : pr_C} {l : Launch} (hl : l.stackTraces = false) {T : pr_T} {I : pr_I} {L : pr_L} {w : Nat} {σ : pr_I} (hw : pr_W T w) {x v sn f y : Nat} (hx : pr_X7 T x w v sn f y) {p1 p2 : Int32} (h0a : ¬ p1 < 0) (h0b : p1 < (σ 1 8)) (hf : p2 < (0 : Int32) ∨ ¬ p2 ≤ (2000 : Int32)) : pr_M g l 9 1 6 mX7_availableAfter [.ref x, .int p1, .int p2] T (ws_put I w σ) L pr_nv (pr_Th eIAE T (ws_put I w σ) L) := by
  refine pr_ofG (by decide) rfl hl (Nat.le_of_ble_eq_true rfl) (fun X hA hX hXn hXt => ?_)
  subst hX
  show pr_G g X mX7_availableAfter.2.2.1 _ 0 0 0 [.ref x, .int p1, .int p2] [] T (ws_put I w σ) L
  refine pr_iload_n hA dX7_availableAfter_0 rfl ?_
  refine pr_aload_n hA dX7_availableAfter_1 rfl ?_
  refine pr_getR hA f_X7_10 rfl (tx_k hx) (tx_0 hx) dX7_availableAfter_2 ?_
  refine pr_getR hA f_X7_55 rfl (wk_0 hw) (wf_0_0 hw) dX7_availableAfter_5 ?_
  refine pr_getE (v := σ 1 8) hA f_X7_59 rfl (wk_1 hw) (ws_val (by decide)) dX7_availableAfter_8 ?_
  refine pr_callSv hA [.int p1, .int (σ 1 8)] (c_ri_ok2 (pr_hl hA) h0a h0b) s_X7_74 rfl (by decide) (Nat.zero_le _) (Nat.zero_le _) rfl (Nat.le_of_ble_eq_true rfl) dX7_availableAfter_11 ?_
  refine pr_iload_n hA dX7_availableAfter_14 rfl ?_
  refine pr_iconst hA (0) dX7_availableAfter_15 (by decide) ?_
  refine pr_sipush hA (2000) dX7_availableAfter_16 (by decide) ?_
  exact pr_thS hA hXt rfl (c_rr_th (pr_hl hA) hf) s_X7_86 rfl (by decide) rfl dX7_availableAfter_19
theorem t_bringUp_0 {g : pr_C} {l : Launch} (hl : l.stackTraces = false) {T : pr_T} {I : pr_I} {L : pr_L} {w : Nat} {σ : pr_I} (hw : pr_W T w) {x v sn f y : Nat} (hx : pr_X7 T x w v sn f y) {p1 : Int32}  (hf : p1 < 0 ∨ ¬ p1 < (σ 1 8)) : pr_M g l 9 1 6 mX7_bringUp [.ref x, .int p1] T (ws_put I w σ) L pr_nv (pr_Th eIOO T (ws_put I w σ) L) := by
  refine pr_ofG (by decide) rfl hl (Nat.le_of_ble_eq_true rfl) (fun X hA hX hXn hXt => ?_)
  subst hX
  show pr_G g X mX7_bringUp.2.2.1 _ 0 0 0 [.ref x, .int p1] [] T (ws_put I w σ) L
  refine pr_iload_n hA dX7_bringUp_0 rfl ?_
  refine pr_aload_n hA dX7_bringUp_1 rfl ?_
  refine pr_getR hA f_X7_10 rfl (tx_k hx) (tx_0 hx) dX7_bringUp_2 ?_
  refine pr_getR hA f_X7_55 rfl (wk_0 hw) (wf_0_0 hw) dX7_bringUp_5 ?_
  refine pr_getE (v := σ 1 8) hA f_X7_59 rfl (wk_1 hw) (ws_val (by decide)) dX7_bringUp_8 ?_
  exact pr_thS hA hXt rfl (c_ri_th (pr_hl hA) hf) s_X7_74 rfl (by decide) rfl dX7_bringUp_11
theorem t_cancel_0 {g : pr_C} {l : Launch} (hl : l.stackTraces = false) {T : pr_T} {I : pr_I} {L : pr_L} {w : Nat} {σ : pr_I} (hw : pr_W T w) {x v sn f y : Nat} (hx : pr_X7 T x w v sn f y) {p1 : Int32}  (hf : p1 < 0 ∨ ¬ p1 < (σ 18 17)) : pr_M g l 9 1 6 mX7_cancel [.ref x, .int p1] T (ws_put I w σ) L pr_nv (pr_Th eIOO T (ws_put I w σ) L) := by
  refine pr_ofG (by decide) rfl hl (Nat.le_of_ble_eq_true rfl) (fun X hA hX hXn hXt => ?_)
  subst hX
  show pr_G g X mX7_cancel.2.2.1 _ 0 0 0 [.ref x, .int p1, .null] [] T (ws_put I w σ) L
  refine pr_iload_n hA dX7_cancel_0 rfl ?_
  refine pr_aload_n hA dX7_cancel_1 rfl ?_
  refine pr_getR hA f_X7_10 rfl (tx_k hx) (tx_0 hx) dX7_cancel_2 ?_
  refine pr_getR hA f_X7_131 rfl (wk_0 hw) (wf_0_2 hw) dX7_cancel_5 ?_
  refine pr_getE (v := σ 18 17) hA f_X7_135 rfl (wk_18 hw) (ws_val (by decide)) dX7_cancel_8 ?_
  exact pr_thS hA hXt rfl (c_ri_th (pr_hl hA) hf) s_X7_74 rfl (by decide) rfl dX7_cancel_11
theorem t_cheapest_0i {g : pr_C} {l : Launch} (hl : l.stackTraces = false) {T : pr_T} {I : pr_I} {L : pr_L} {w : Nat} {σ : pr_I} (hw : pr_W T w) {x v sn f y : Nat} (hx : pr_X7 T x w v sn f y) {p1 p2 p3 : Int32}  (hf : (p1 < 0 ∨ ¬ p1 < σ 0 6) ∨ (p2 < 0 ∨ ¬ p2 < σ 0 6)) : pr_M g l 9 1 6 mX7_cheapest [.ref x, .int p1, .int p2, .int p3] T (ws_put I w σ) L pr_nv (pr_Th eIOO T (ws_put I w σ) L) := by
  refine pr_ofG (by decide) rfl hl (Nat.le_of_ble_eq_true rfl) (fun X hA hX hXn hXt => ?_)
  subst hX
  show pr_G g X mX7_cheapest.2.2.1 _ 0 0 0 [.ref x, .int p1, .int p2, .int p3, .null] [] T (ws_put I w σ) L
  refine pr_aload_n hA dX7_cheapest_0 rfl ?_
  refine pr_iload_n hA dX7_cheapest_1 rfl ?_
  refine pr_iload_n hA dX7_cheapest_2 rfl ?_
  refine pr_iload_n hA dX7_cheapest_3 rfl ?_
  exact pr_thV hA hXt rfl (t_findPath_0i (pr_hl hA) hw hx hf) v_X7_202 (tx_k hx) (by decide) rfl rfl rfl (by decide) rfl dX7_cheapest_4
theorem t_cheapest_0p {g : pr_C} {l : Launch} (hl : l.stackTraces = false) {T : pr_T} {I : pr_I} {L : pr_L} {w : Nat} {σ : pr_I} (hw : pr_W T w) {x v sn f y : Nat} (hx : pr_X7 T x w v sn f y) {p1 p2 p3 : Int32}  (h1 : ¬ p1 < 0) (h2 : p1 < σ 0 6) (h3 : ¬ p2 < 0) (h4 : p2 < σ 0 6) (h5 : p1 = p2) : pr_M g l 9 1 6 mX7_cheapest [.ref x, .int p1, .int p2, .int p3] T (ws_put I w σ) L pr_nv (pr_Th eIAE T (ws_put I w σ) L) := by
  refine pr_ofG (by decide) rfl hl (Nat.le_of_ble_eq_true rfl) (fun X hA hX hXn hXt => ?_)
  subst hX
  show pr_G g X mX7_cheapest.2.2.1 _ 0 0 0 [.ref x, .int p1, .int p2, .int p3, .null] [] T (ws_put I w σ) L
  refine pr_aload_n hA dX7_cheapest_0 rfl ?_
  refine pr_iload_n hA dX7_cheapest_1 rfl ?_
  refine pr_iload_n hA dX7_cheapest_2 rfl ?_
  refine pr_iload_n hA dX7_cheapest_3 rfl ?_
  exact pr_thV hA hXt rfl (t_findPath_0p (pr_hl hA) hw hx h1 h2 h3 h4 h5) v_X7_202 (tx_k hx) (by decide) rfl rfl rfl (by decide) rfl dX7_cheapest_4
theorem t_cheapest_0r {g : pr_C} {l : Launch} (hl : l.stackTraces = false) {T : pr_T} {I : pr_I} {L : pr_L} {w : Nat} {σ : pr_I} (hw : pr_W T w) {x v sn f y : Nat} (hx : pr_X7 T x w v sn f y) {p1 p2 p3 : Int32}  (h1 : ¬ p1 < 0) (h2 : p1 < σ 0 6) (h3 : ¬ p2 < 0) (h4 : p2 < σ 0 6) (h5 : p1 ≠ p2) (hf : p3 < (0 : Int32) ∨ ¬ p3 ≤ (1000 : Int32)) : pr_M g l 9 1 6 mX7_cheapest [.ref x, .int p1, .int p2, .int p3] T (ws_put I w σ) L pr_nv (pr_Th eIAE T (ws_put I w σ) L) := by
  refine pr_ofG (by decide) rfl hl (Nat.le_of_ble_eq_true rfl) (fun X hA hX hXn hXt => ?_)
  subst hX
  show pr_G g X mX7_cheapest.2.2.1 _ 0 0 0 [.ref x, .int p1, .int p2, .int p3, .null] [] T (ws_put I w σ) L
  refine pr_aload_n hA dX7_cheapest_0 rfl ?_
  refine pr_iload_n hA dX7_cheapest_1 rfl ?_
  refine pr_iload_n hA dX7_cheapest_2 rfl ?_
  refine pr_iload_n hA dX7_cheapest_3 rfl ?_
  exact pr_thV hA hXt rfl (t_findPath_1 (pr_hl hA) hw hx h1 h2 h3 h4 h5 hf) v_X7_202 (tx_k hx) (by decide) rfl rfl rfl (by decide) rfl dX7_cheapest_4
theorem t_cheapestLink_0i {g : pr_C} {l : Launch} (hl : l.stackTraces = false) {T : pr_T} {I : pr_I} {L : pr_L} {w : Nat} {σ : pr_I} (hw : pr_W T w) {x v sn f y : Nat} (hx : pr_X7 T x w v sn f y) {p1 p2 p3 p4 : Int32}  (hf : (p1 < 0 ∨ ¬ p1 < σ 0 6) ∨ (p2 < 0 ∨ ¬ p2 < σ 0 6)) : pr_M g l 9 1 6 mX7_cheapestLink [.ref x, .int p1, .int p2, .int p3, .int p4] T (ws_put I w σ) L pr_nv (pr_Th eIOO T (ws_put I w σ) L) := by
  refine pr_ofG (by decide) rfl hl (Nat.le_of_ble_eq_true rfl) (fun X hA hX hXn hXt => ?_)
  subst hX
  show pr_G g X mX7_cheapestLink.2.2.1 _ 0 0 0 [.ref x, .int p1, .int p2, .int p3, .int p4, .null] [] T (ws_put I w σ) L
  refine pr_aload_n hA dX7_cheapestLink_0 rfl ?_
  refine pr_iload_n hA dX7_cheapestLink_1 rfl ?_
  refine pr_iload_n hA dX7_cheapestLink_2 rfl ?_
  refine pr_iload_n hA dX7_cheapestLink_3 rfl ?_
  exact pr_thV hA hXt rfl (t_findPath_0i (pr_hl hA) hw hx hf) v_X7_202 (tx_k hx) (by decide) rfl rfl rfl (by decide) rfl dX7_cheapestLink_4
theorem t_cheapestLink_0p {g : pr_C} {l : Launch} (hl : l.stackTraces = false) {T : pr_T} {I : pr_I} {L : pr_L} {w : Nat} {σ : pr_I} (hw : pr_W T w) {x v sn f y : Nat} (hx : pr_X7 T x w v sn f y) {p1 p2 p3 p4 : Int32}  (h1 : ¬ p1 < 0) (h2 : p1 < σ 0 6) (h3 : ¬ p2 < 0) (h4 : p2 < σ 0 6) (h5 : p1 = p2) : pr_M g l 9 1 6 mX7_cheapestLink [.ref x, .int p1, .int p2, .int p3, .int p4] T (ws_put I w σ) L pr_nv (pr_Th eIAE T (ws_put I w σ) L) := by
  refine pr_ofG (by decide) rfl hl (Nat.le_of_ble_eq_true rfl) (fun X hA hX hXn hXt => ?_)
  subst hX
  show pr_G g X mX7_cheapestLink.2.2.1 _ 0 0 0 [.ref x, .int p1, .int p2, .int p3, .int p4, .null] [] T (ws_put I w σ) L
  refine pr_aload_n hA dX7_cheapestLink_0 rfl ?_
  refine pr_iload_n hA dX7_cheapestLink_1 rfl ?_
  refine pr_iload_n hA dX7_cheapestLink_2 rfl ?_
  refine pr_iload_n hA dX7_cheapestLink_3 rfl ?_
  exact pr_thV hA hXt rfl (t_findPath_0p (pr_hl hA) hw hx h1 h2 h3 h4 h5) v_X7_202 (tx_k hx) (by decide) rfl rfl rfl (by decide) rfl dX7_cheapestLink_4
theorem t_cheapestLink_0r {g : pr_C} {l : Launch} (hl : l.stackTraces = false) {T : pr_T} {I : pr_I} {L : pr_L} {w : Nat} {σ : pr_I} (hw : pr_W T w) {x v sn f y : Nat} (hx : pr_X7 T x w v sn f y) {p1 p2 p3 p4 : Int32}  (h1 : ¬ p1 < 0) (h2 : p1 < σ 0 6) (h3 : ¬ p2 < 0) (h4 : p2 < σ 0 6) (h5 : p1 ≠ p2) (hf : p3 < (0 : Int32) ∨ ¬ p3 ≤ (1000 : Int32)) : pr_M g l 9 1 6 mX7_cheapestLink [.ref x, .int p1, .int p2, .int p3, .int p4] T (ws_put I w σ) L pr_nv (pr_Th eIAE T (ws_put I w σ) L) := by
  refine pr_ofG (by decide) rfl hl (Nat.le_of_ble_eq_true rfl) (fun X hA hX hXn hXt => ?_)
  subst hX
  show pr_G g X mX7_cheapestLink.2.2.1 _ 0 0 0 [.ref x, .int p1, .int p2, .int p3, .int p4, .null] [] T (ws_put I w σ) L
  refine pr_aload_n hA dX7_cheapestLink_0 rfl ?_
  refine pr_iload_n hA dX7_cheapestLink_1 rfl ?_
  refine pr_iload_n hA dX7_cheapestLink_2 rfl ?_
  refine pr_iload_n hA dX7_cheapestLink_3 rfl ?_
  exact pr_thV hA hXt rfl (t_findPath_1 (pr_hl hA) hw hx h1 h2 h3 h4 h5 hf) v_X7_202 (tx_k hx) (by decide) rfl rfl rfl (by decide) rfl dX7_cheapestLink_4
theorem t_criticalLinks_0i {g : pr_C} {l : Launch} (hl : l.stackTraces = false) {T : pr_T} {I : pr_I} {L : pr_L} {w : Nat} {σ : pr_I} (hw : pr_W T w) {x v sn f y : Nat} (hx : pr_X7 T x w v sn f y) {p1 p2 p3 : Int32}  (hf : (p1 < 0 ∨ ¬ p1 < σ 0 6) ∨ (p2 < 0 ∨ ¬ p2 < σ 0 6)) : pr_M g l 9 1 6 mX7_criticalLinks [.ref x, .int p1, .int p2, .int p3] T (ws_put I w σ) L pr_nv (pr_Th eIOO T (ws_put I w σ) L) := by
  refine pr_ofG (by decide) rfl hl (Nat.le_of_ble_eq_true rfl) (fun X hA hX hXn hXt => ?_)
  subst hX
  show pr_G g X mX7_criticalLinks.2.2.1 _ 0 0 0 [.ref x, .int p1, .int p2, .int p3, .null, .null, .null, .null, .null] [] T (ws_put I w σ) L
  refine pr_aload_n hA dX7_criticalLinks_0 rfl ?_
  refine pr_iload_n hA dX7_criticalLinks_1 rfl ?_
  refine pr_iload_n hA dX7_criticalLinks_2 rfl ?_
  exact pr_thV hA hXt rfl (c_rp_ti (pr_hl hA) hw hx hf) v_X7_124 (tx_k hx) (by decide) rfl rfl rfl (by decide) rfl dX7_criticalLinks_3
theorem t_criticalLinks_0p {g : pr_C} {l : Launch} (hl : l.stackTraces = false) {T : pr_T} {I : pr_I} {L : pr_L} {w : Nat} {σ : pr_I} (hw : pr_W T w) {x v sn f y : Nat} (hx : pr_X7 T x w v sn f y) {p1 p2 p3 : Int32}  (h1 : ¬ p1 < 0) (h2 : p1 < σ 0 6) (h3 : ¬ p2 < 0) (h4 : p2 < σ 0 6) (h5 : p1 = p2) : pr_M g l 9 1 6 mX7_criticalLinks [.ref x, .int p1, .int p2, .int p3] T (ws_put I w σ) L pr_nv (pr_Th eIAE T (ws_put I w σ) L) := by
  refine pr_ofG (by decide) rfl hl (Nat.le_of_ble_eq_true rfl) (fun X hA hX hXn hXt => ?_)
  subst hX
  show pr_G g X mX7_criticalLinks.2.2.1 _ 0 0 0 [.ref x, .int p1, .int p2, .int p3, .null, .null, .null, .null, .null] [] T (ws_put I w σ) L
  refine pr_aload_n hA dX7_criticalLinks_0 rfl ?_
  refine pr_iload_n hA dX7_criticalLinks_1 rfl ?_
  refine pr_iload_n hA dX7_criticalLinks_2 rfl ?_
  exact pr_thV hA hXt rfl (c_rp_tp (pr_hl hA) hw hx h1 h2 h3 h4 h5) v_X7_124 (tx_k hx) (by decide) rfl rfl rfl (by decide) rfl dX7_criticalLinks_3
theorem t_criticalLinks_1 {g : pr_C} {l : Launch} (hl : l.stackTraces = false) {T : pr_T} {I : pr_I} {L : pr_L} {w : Nat} {σ : pr_I} (hw : pr_W T w) {x v sn f y : Nat} (hx : pr_X7 T x w v sn f y) {p1 p2 p3 : Int32} (h0a : ¬ p1 < 0) (h0b : p1 < σ 0 6) (h0c : ¬ p2 < 0) (h0d : p2 < σ 0 6) (h0e : p1 ≠ p2) (hf : p3 < (0 : Int32) ∨ ¬ p3 ≤ (1000 : Int32)) : pr_M g l 9 1 6 mX7_criticalLinks [.ref x, .int p1, .int p2, .int p3] T (ws_put I w σ) L pr_nv (pr_Th eIAE T (ws_put I w σ) L) := by
  refine pr_ofG (by decide) rfl hl (Nat.le_of_ble_eq_true rfl) (fun X hA hX hXn hXt => ?_)
  subst hX
  show pr_G g X mX7_criticalLinks.2.2.1 _ 0 0 0 [.ref x, .int p1, .int p2, .int p3, .null, .null, .null, .null, .null] [] T (ws_put I w σ) L
  refine pr_aload_n hA dX7_criticalLinks_0 rfl ?_
  refine pr_iload_n hA dX7_criticalLinks_1 rfl ?_
  refine pr_iload_n hA dX7_criticalLinks_2 rfl ?_
  refine pr_callVv hA [.int p1, .int p2] (c_rp_ok2 (pr_hl hA) hw hx h0a h0b h0c h0d h0e) v_X7_124 (tx_k hx) (by decide) rfl rfl rfl (by decide) (Nat.zero_le _) (Nat.zero_le _) rfl (Nat.le_of_ble_eq_true rfl) dX7_criticalLinks_3 ?_
  refine pr_iload_n hA dX7_criticalLinks_6 rfl ?_
  refine pr_iconst hA (0) dX7_criticalLinks_7 (by decide) ?_
  refine pr_sipush hA (1000) dX7_criticalLinks_8 (by decide) ?_
  exact pr_thS hA hXt rfl (c_rr_th (pr_hl hA) hf) s_X7_86 rfl (by decide) rfl dX7_criticalLinks_11
theorem t_disjointPaths_0i {g : pr_C} {l : Launch} (hl : l.stackTraces = false) {T : pr_T} {I : pr_I} {L : pr_L} {w : Nat} {σ : pr_I} (hw : pr_W T w) {x v sn f y : Nat} (hx : pr_X7 T x w v sn f y) {p1 p2 p3 : Int32}  (hf : (p1 < 0 ∨ ¬ p1 < σ 0 6) ∨ (p2 < 0 ∨ ¬ p2 < σ 0 6)) : pr_M g l 9 1 6 mX7_disjointPaths [.ref x, .int p1, .int p2, .int p3] T (ws_put I w σ) L pr_nv (pr_Th eIOO T (ws_put I w σ) L) := by
  refine pr_ofG (by decide) rfl hl (Nat.le_of_ble_eq_true rfl) (fun X hA hX hXn hXt => ?_)
  subst hX
  show pr_G g X mX7_disjointPaths.2.2.1 _ 0 0 0 [.ref x, .int p1, .int p2, .int p3] [] T (ws_put I w σ) L
  refine pr_aload_n hA dX7_disjointPaths_0 rfl ?_
  refine pr_iload_n hA dX7_disjointPaths_1 rfl ?_
  refine pr_iload_n hA dX7_disjointPaths_2 rfl ?_
  exact pr_thV hA hXt rfl (c_rp_ti (pr_hl hA) hw hx hf) v_X7_124 (tx_k hx) (by decide) rfl rfl rfl (by decide) rfl dX7_disjointPaths_3
theorem t_disjointPaths_0p {g : pr_C} {l : Launch} (hl : l.stackTraces = false) {T : pr_T} {I : pr_I} {L : pr_L} {w : Nat} {σ : pr_I} (hw : pr_W T w) {x v sn f y : Nat} (hx : pr_X7 T x w v sn f y) {p1 p2 p3 : Int32}  (h1 : ¬ p1 < 0) (h2 : p1 < σ 0 6) (h3 : ¬ p2 < 0) (h4 : p2 < σ 0 6) (h5 : p1 = p2) : pr_M g l 9 1 6 mX7_disjointPaths [.ref x, .int p1, .int p2, .int p3] T (ws_put I w σ) L pr_nv (pr_Th eIAE T (ws_put I w σ) L) := by
  refine pr_ofG (by decide) rfl hl (Nat.le_of_ble_eq_true rfl) (fun X hA hX hXn hXt => ?_)
  subst hX
  show pr_G g X mX7_disjointPaths.2.2.1 _ 0 0 0 [.ref x, .int p1, .int p2, .int p3] [] T (ws_put I w σ) L
  refine pr_aload_n hA dX7_disjointPaths_0 rfl ?_
  refine pr_iload_n hA dX7_disjointPaths_1 rfl ?_
  refine pr_iload_n hA dX7_disjointPaths_2 rfl ?_
  exact pr_thV hA hXt rfl (c_rp_tp (pr_hl hA) hw hx h1 h2 h3 h4 h5) v_X7_124 (tx_k hx) (by decide) rfl rfl rfl (by decide) rfl dX7_disjointPaths_3
theorem t_disjointPaths_1 {g : pr_C} {l : Launch} (hl : l.stackTraces = false) {T : pr_T} {I : pr_I} {L : pr_L} {w : Nat} {σ : pr_I} (hw : pr_W T w) {x v sn f y : Nat} (hx : pr_X7 T x w v sn f y) {p1 p2 p3 : Int32} (h0a : ¬ p1 < 0) (h0b : p1 < σ 0 6) (h0c : ¬ p2 < 0) (h0d : p2 < σ 0 6) (h0e : p1 ≠ p2) (hf : p3 < (0 : Int32) ∨ ¬ p3 ≤ (1000 : Int32)) : pr_M g l 9 1 6 mX7_disjointPaths [.ref x, .int p1, .int p2, .int p3] T (ws_put I w σ) L pr_nv (pr_Th eIAE T (ws_put I w σ) L) := by
  refine pr_ofG (by decide) rfl hl (Nat.le_of_ble_eq_true rfl) (fun X hA hX hXn hXt => ?_)
  subst hX
  show pr_G g X mX7_disjointPaths.2.2.1 _ 0 0 0 [.ref x, .int p1, .int p2, .int p3] [] T (ws_put I w σ) L
  refine pr_aload_n hA dX7_disjointPaths_0 rfl ?_
  refine pr_iload_n hA dX7_disjointPaths_1 rfl ?_
  refine pr_iload_n hA dX7_disjointPaths_2 rfl ?_
  refine pr_callVv hA [.int p1, .int p2] (c_rp_ok2 (pr_hl hA) hw hx h0a h0b h0c h0d h0e) v_X7_124 (tx_k hx) (by decide) rfl rfl rfl (by decide) (Nat.zero_le _) (Nat.zero_le _) rfl (Nat.le_of_ble_eq_true rfl) dX7_disjointPaths_3 ?_
  refine pr_iload_n hA dX7_disjointPaths_6 rfl ?_
  refine pr_iconst hA (0) dX7_disjointPaths_7 (by decide) ?_
  refine pr_sipush hA (1000) dX7_disjointPaths_8 (by decide) ?_
  exact pr_thS hA hXt rfl (c_rr_th (pr_hl hA) hf) s_X7_86 rfl (by decide) rfl dX7_disjointPaths_11
theorem t_extend_0 {g : pr_C} {l : Launch} (hl : l.stackTraces = false) {T : pr_T} {I : pr_I} {L : pr_L} {w : Nat} {σ : pr_I} (hw : pr_W T w) {x v sn f y : Nat} (hx : pr_X7 T x w v sn f y) {p1 : Int32}  (hf : p1 < 0 ∨ ¬ p1 < (σ 18 17)) : pr_M g l 9 1 6 mX7_extend [.ref x, .int p1] T (ws_put I w σ) L pr_nv (pr_Th eIOO T (ws_put I w σ) L) := by
  refine pr_ofG (by decide) rfl hl (Nat.le_of_ble_eq_true rfl) (fun X hA hX hXn hXt => ?_)
  subst hX
  show pr_G g X mX7_extend.2.2.1 _ 0 0 0 [.ref x, .int p1] [] T (ws_put I w σ) L
  refine pr_iload_n hA dX7_extend_0 rfl ?_
  refine pr_aload_n hA dX7_extend_1 rfl ?_
  refine pr_getR hA f_X7_10 rfl (tx_k hx) (tx_0 hx) dX7_extend_2 ?_
  refine pr_getR hA f_X7_131 rfl (wk_0 hw) (wf_0_2 hw) dX7_extend_5 ?_
  refine pr_getE (v := σ 18 17) hA f_X7_135 rfl (wk_18 hw) (ws_val (by decide)) dX7_extend_8 ?_
  exact pr_thS hA hXt rfl (c_ri_th (pr_hl hA) hf) s_X7_74 rfl (by decide) rfl dX7_extend_11
theorem t_greatestFlow_0i {g : pr_C} {l : Launch} (hl : l.stackTraces = false) {T : pr_T} {I : pr_I} {L : pr_L} {w : Nat} {σ : pr_I} (hw : pr_W T w) {x v sn f y : Nat} (hx : pr_X7 T x w v sn f y) {p1 p2 : Int32}  (hf : (p1 < 0 ∨ ¬ p1 < σ 0 6) ∨ (p2 < 0 ∨ ¬ p2 < σ 0 6)) : pr_M g l 9 1 6 mX7_greatestFlow [.ref x, .int p1, .int p2] T (ws_put I w σ) L pr_nv (pr_Th eIOO T (ws_put I w σ) L) := by
  refine pr_ofG (by decide) rfl hl (Nat.le_of_ble_eq_true rfl) (fun X hA hX hXn hXt => ?_)
  subst hX
  show pr_G g X mX7_greatestFlow.2.2.1 _ 0 0 0 [.ref x, .int p1, .int p2] [] T (ws_put I w σ) L
  refine pr_aload_n hA dX7_greatestFlow_0 rfl ?_
  refine pr_iload_n hA dX7_greatestFlow_1 rfl ?_
  refine pr_iload_n hA dX7_greatestFlow_2 rfl ?_
  exact pr_thV hA hXt rfl (c_rp_ti (pr_hl hA) hw hx hf) v_X7_124 (tx_k hx) (by decide) rfl rfl rfl (by decide) rfl dX7_greatestFlow_3
theorem t_greatestFlow_0p {g : pr_C} {l : Launch} (hl : l.stackTraces = false) {T : pr_T} {I : pr_I} {L : pr_L} {w : Nat} {σ : pr_I} (hw : pr_W T w) {x v sn f y : Nat} (hx : pr_X7 T x w v sn f y) {p1 p2 : Int32}  (h1 : ¬ p1 < 0) (h2 : p1 < σ 0 6) (h3 : ¬ p2 < 0) (h4 : p2 < σ 0 6) (h5 : p1 = p2) : pr_M g l 9 1 6 mX7_greatestFlow [.ref x, .int p1, .int p2] T (ws_put I w σ) L pr_nv (pr_Th eIAE T (ws_put I w σ) L) := by
  refine pr_ofG (by decide) rfl hl (Nat.le_of_ble_eq_true rfl) (fun X hA hX hXn hXt => ?_)
  subst hX
  show pr_G g X mX7_greatestFlow.2.2.1 _ 0 0 0 [.ref x, .int p1, .int p2] [] T (ws_put I w σ) L
  refine pr_aload_n hA dX7_greatestFlow_0 rfl ?_
  refine pr_iload_n hA dX7_greatestFlow_1 rfl ?_
  refine pr_iload_n hA dX7_greatestFlow_2 rfl ?_
  exact pr_thV hA hXt rfl (c_rp_tp (pr_hl hA) hw hx h1 h2 h3 h4 h5) v_X7_124 (tx_k hx) (by decide) rfl rfl rfl (by decide) rfl dX7_greatestFlow_3
theorem t_greatestNew_0i {g : pr_C} {l : Launch} (hl : l.stackTraces = false) {T : pr_T} {I : pr_I} {L : pr_L} {w : Nat} {σ : pr_I} (hw : pr_W T w) {x v sn f y : Nat} (hx : pr_X7 T x w v sn f y) {p1 p2 : Int32}  (hf : (p1 < 0 ∨ ¬ p1 < σ 0 6) ∨ (p2 < 0 ∨ ¬ p2 < σ 0 6)) : pr_M g l 9 1 6 mX7_greatestNew [.ref x, .int p1, .int p2] T (ws_put I w σ) L pr_nv (pr_Th eIOO T (ws_put I w σ) L) := by
  refine pr_ofG (by decide) rfl hl (Nat.le_of_ble_eq_true rfl) (fun X hA hX hXn hXt => ?_)
  subst hX
  show pr_G g X mX7_greatestNew.2.2.1 _ 0 0 0 [.ref x, .int p1, .int p2, .null, .null] [] T (ws_put I w σ) L
  refine pr_aload_n hA dX7_greatestNew_0 rfl ?_
  refine pr_iload_n hA dX7_greatestNew_1 rfl ?_
  refine pr_iload_n hA dX7_greatestNew_2 rfl ?_
  exact pr_thV hA hXt rfl (c_rp_ti (pr_hl hA) hw hx hf) v_X7_124 (tx_k hx) (by decide) rfl rfl rfl (by decide) rfl dX7_greatestNew_3
theorem t_greatestNew_0p {g : pr_C} {l : Launch} (hl : l.stackTraces = false) {T : pr_T} {I : pr_I} {L : pr_L} {w : Nat} {σ : pr_I} (hw : pr_W T w) {x v sn f y : Nat} (hx : pr_X7 T x w v sn f y) {p1 p2 : Int32}  (h1 : ¬ p1 < 0) (h2 : p1 < σ 0 6) (h3 : ¬ p2 < 0) (h4 : p2 < σ 0 6) (h5 : p1 = p2) : pr_M g l 9 1 6 mX7_greatestNew [.ref x, .int p1, .int p2] T (ws_put I w σ) L pr_nv (pr_Th eIAE T (ws_put I w σ) L) := by
  refine pr_ofG (by decide) rfl hl (Nat.le_of_ble_eq_true rfl) (fun X hA hX hXn hXt => ?_)
  subst hX
  show pr_G g X mX7_greatestNew.2.2.1 _ 0 0 0 [.ref x, .int p1, .int p2, .null, .null] [] T (ws_put I w σ) L
  refine pr_aload_n hA dX7_greatestNew_0 rfl ?_
  refine pr_iload_n hA dX7_greatestNew_1 rfl ?_
  refine pr_iload_n hA dX7_greatestNew_2 rfl ?_
  exact pr_thV hA hXt rfl (c_rp_tp (pr_hl hA) hw hx h1 h2 h3 h4 h5) v_X7_124 (tx_k hx) (by decide) rfl rfl rfl (by decide) rfl dX7_greatestNew_3
theorem t_inState_0 {g : pr_C} {l : Launch} (hl : l.stackTraces = false) {T : pr_T} {I : pr_I} {L : pr_L} {w : Nat} {σ : pr_I} (hw : pr_W T w) {x v sn f y : Nat} (hx : pr_X7 T x w v sn f y) {p1 : Int32}  (hf : p1 < (0 : Int32) ∨ ¬ p1 ≤ (7 : Int32)) : pr_M g l 9 1 6 mX7_inState [.ref x, .int p1] T (ws_put I w σ) L pr_nv (pr_Th eIAE T (ws_put I w σ) L) := by
  refine pr_ofG (by decide) rfl hl (Nat.le_of_ble_eq_true rfl) (fun X hA hX hXn hXt => ?_)
  subst hX
  show pr_G g X mX7_inState.2.2.1 _ 0 0 0 [.ref x, .int p1] [] T (ws_put I w σ) L
  refine pr_iload_n hA dX7_inState_0 rfl ?_
  refine pr_iconst hA (0) dX7_inState_1 (by decide) ?_
  refine pr_bipush hA (7) dX7_inState_2 (by decide) ?_
  exact pr_thS hA hXt rfl (c_rr_th (pr_hl hA) hf) s_X7_86 rfl (by decide) rfl dX7_inState_4
theorem t_linkValue_0 {g : pr_C} {l : Launch} (hl : l.stackTraces = false) {T : pr_T} {I : pr_I} {L : pr_L} {w : Nat} {σ : pr_I} (hw : pr_W T w) {x v sn f y : Nat} (hx : pr_X7 T x w v sn f y) {p1 p2 : Int32}  (hf : p1 < 0 ∨ ¬ p1 < (σ 1 8)) : pr_M g l 9 1 6 mX7_linkValue [.ref x, .int p1, .int p2] T (ws_put I w σ) L pr_nv (pr_Th eIOO T (ws_put I w σ) L) := by
  refine pr_ofG (by decide) rfl hl (Nat.le_of_ble_eq_true rfl) (fun X hA hX hXn hXt => ?_)
  subst hX
  show pr_G g X mX7_linkValue.2.2.1 _ 0 0 0 [.ref x, .int p1, .int p2] [] T (ws_put I w σ) L
  refine pr_iload_n hA dX7_linkValue_0 rfl ?_
  refine pr_aload_n hA dX7_linkValue_1 rfl ?_
  refine pr_getR hA f_X7_10 rfl (tx_k hx) (tx_0 hx) dX7_linkValue_2 ?_
  refine pr_getR hA f_X7_55 rfl (wk_0 hw) (wf_0_0 hw) dX7_linkValue_5 ?_
  refine pr_getE (v := σ 1 8) hA f_X7_59 rfl (wk_1 hw) (ws_val (by decide)) dX7_linkValue_8 ?_
  exact pr_thS hA hXt rfl (c_ri_th (pr_hl hA) hf) s_X7_74 rfl (by decide) rfl dX7_linkValue_11
theorem t_linkValue_1 {g : pr_C} {l : Launch} (hl : l.stackTraces = false) {T : pr_T} {I : pr_I} {L : pr_L} {w : Nat} {σ : pr_I} (hw : pr_W T w) {x v sn f y : Nat} (hx : pr_X7 T x w v sn f y) {p1 p2 : Int32} (h0a : ¬ p1 < 0) (h0b : p1 < (σ 1 8)) (hf : p2 < (0 : Int32) ∨ ¬ p2 ≤ (8 : Int32)) : pr_M g l 9 1 6 mX7_linkValue [.ref x, .int p1, .int p2] T (ws_put I w σ) L pr_nv (pr_Th eIAE T (ws_put I w σ) L) := by
  refine pr_ofG (by decide) rfl hl (Nat.le_of_ble_eq_true rfl) (fun X hA hX hXn hXt => ?_)
  subst hX
  show pr_G g X mX7_linkValue.2.2.1 _ 0 0 0 [.ref x, .int p1, .int p2] [] T (ws_put I w σ) L
  refine pr_iload_n hA dX7_linkValue_0 rfl ?_
  refine pr_aload_n hA dX7_linkValue_1 rfl ?_
  refine pr_getR hA f_X7_10 rfl (tx_k hx) (tx_0 hx) dX7_linkValue_2 ?_
  refine pr_getR hA f_X7_55 rfl (wk_0 hw) (wf_0_0 hw) dX7_linkValue_5 ?_
  refine pr_getE (v := σ 1 8) hA f_X7_59 rfl (wk_1 hw) (ws_val (by decide)) dX7_linkValue_8 ?_
  refine pr_callSv hA [.int p1, .int (σ 1 8)] (c_ri_ok2 (pr_hl hA) h0a h0b) s_X7_74 rfl (by decide) (Nat.zero_le _) (Nat.zero_le _) rfl (Nat.le_of_ble_eq_true rfl) dX7_linkValue_11 ?_
  refine pr_iload_n hA dX7_linkValue_14 rfl ?_
  refine pr_iconst hA (0) dX7_linkValue_15 (by decide) ?_
  refine pr_bipush hA (8) dX7_linkValue_16 (by decide) ?_
  exact pr_thS hA hXt rfl (c_rr_th (pr_hl hA) hf) s_X7_86 rfl (by decide) rfl dX7_linkValue_18
theorem t_nameLetter_0 {g : pr_C} {l : Launch} (hl : l.stackTraces = false) {T : pr_T} {I : pr_I} {L : pr_L} {w : Nat} {σ : pr_I} (hw : pr_W T w) {x v sn f y : Nat} (hx : pr_X7 T x w v sn f y) {p1 p2 : Int32}  (hf : p1 < 0 ∨ ¬ p1 < (σ 0 6)) : pr_M g l 9 1 6 mX7_nameLetter [.ref x, .int p1, .int p2] T (ws_put I w σ) L pr_nv (pr_Th eIOO T (ws_put I w σ) L) := by
  refine pr_ofG (by decide) rfl hl (Nat.le_of_ble_eq_true rfl) (fun X hA hX hXn hXt => ?_)
  subst hX
  show pr_G g X mX7_nameLetter.2.2.1 _ 0 0 0 [.ref x, .int p1, .int p2] [] T (ws_put I w σ) L
  refine pr_iload_n hA dX7_nameLetter_0 rfl ?_
  refine pr_aload_n hA dX7_nameLetter_1 rfl ?_
  refine pr_getR hA f_X7_10 rfl (tx_k hx) (tx_0 hx) dX7_nameLetter_2 ?_
  refine pr_getE (v := σ 0 6) hA f_X7_71 rfl (wk_0 hw) ws_val0 dX7_nameLetter_5 ?_
  exact pr_thS hA hXt rfl (c_ri_th (pr_hl hA) hf) s_X7_74 rfl (by decide) rfl dX7_nameLetter_8
theorem t_neededHold_0i {g : pr_C} {l : Launch} (hl : l.stackTraces = false) {T : pr_T} {I : pr_I} {L : pr_L} {w : Nat} {σ : pr_I} (hw : pr_W T w) {x v sn f y : Nat} (hx : pr_X7 T x w v sn f y) {p1 p2 p3 : Int32}  (hf : (p1 < 0 ∨ ¬ p1 < σ 0 6) ∨ (p2 < 0 ∨ ¬ p2 < σ 0 6)) : pr_M g l 9 1 6 mX7_neededHold [.ref x, .int p1, .int p2, .int p3] T (ws_put I w σ) L pr_nv (pr_Th eIOO T (ws_put I w σ) L) := by
  refine pr_ofG (by decide) rfl hl (Nat.le_of_ble_eq_true rfl) (fun X hA hX hXn hXt => ?_)
  subst hX
  show pr_G g X mX7_neededHold.2.2.1 _ 0 0 0 [.ref x, .int p1, .int p2, .int p3, .null, .null, .null, .null] [] T (ws_put I w σ) L
  refine pr_aload_n hA dX7_neededHold_0 rfl ?_
  refine pr_iload_n hA dX7_neededHold_1 rfl ?_
  refine pr_iload_n hA dX7_neededHold_2 rfl ?_
  refine pr_iload_n hA dX7_neededHold_3 rfl ?_
  exact pr_thV hA hXt rfl (t_findPath_0i (pr_hl hA) hw hx hf) v_X7_202 (tx_k hx) (by decide) rfl rfl rfl (by decide) rfl dX7_neededHold_4
theorem t_neededHold_0p {g : pr_C} {l : Launch} (hl : l.stackTraces = false) {T : pr_T} {I : pr_I} {L : pr_L} {w : Nat} {σ : pr_I} (hw : pr_W T w) {x v sn f y : Nat} (hx : pr_X7 T x w v sn f y) {p1 p2 p3 : Int32}  (h1 : ¬ p1 < 0) (h2 : p1 < σ 0 6) (h3 : ¬ p2 < 0) (h4 : p2 < σ 0 6) (h5 : p1 = p2) : pr_M g l 9 1 6 mX7_neededHold [.ref x, .int p1, .int p2, .int p3] T (ws_put I w σ) L pr_nv (pr_Th eIAE T (ws_put I w σ) L) := by
  refine pr_ofG (by decide) rfl hl (Nat.le_of_ble_eq_true rfl) (fun X hA hX hXn hXt => ?_)
  subst hX
  show pr_G g X mX7_neededHold.2.2.1 _ 0 0 0 [.ref x, .int p1, .int p2, .int p3, .null, .null, .null, .null] [] T (ws_put I w σ) L
  refine pr_aload_n hA dX7_neededHold_0 rfl ?_
  refine pr_iload_n hA dX7_neededHold_1 rfl ?_
  refine pr_iload_n hA dX7_neededHold_2 rfl ?_
  refine pr_iload_n hA dX7_neededHold_3 rfl ?_
  exact pr_thV hA hXt rfl (t_findPath_0p (pr_hl hA) hw hx h1 h2 h3 h4 h5) v_X7_202 (tx_k hx) (by decide) rfl rfl rfl (by decide) rfl dX7_neededHold_4
theorem t_neededHold_0r {g : pr_C} {l : Launch} (hl : l.stackTraces = false) {T : pr_T} {I : pr_I} {L : pr_L} {w : Nat} {σ : pr_I} (hw : pr_W T w) {x v sn f y : Nat} (hx : pr_X7 T x w v sn f y) {p1 p2 p3 : Int32}  (h1 : ¬ p1 < 0) (h2 : p1 < σ 0 6) (h3 : ¬ p2 < 0) (h4 : p2 < σ 0 6) (h5 : p1 ≠ p2) (hf : p3 < (0 : Int32) ∨ ¬ p3 ≤ (1000 : Int32)) : pr_M g l 9 1 6 mX7_neededHold [.ref x, .int p1, .int p2, .int p3] T (ws_put I w σ) L pr_nv (pr_Th eIAE T (ws_put I w σ) L) := by
  refine pr_ofG (by decide) rfl hl (Nat.le_of_ble_eq_true rfl) (fun X hA hX hXn hXt => ?_)
  subst hX
  show pr_G g X mX7_neededHold.2.2.1 _ 0 0 0 [.ref x, .int p1, .int p2, .int p3, .null, .null, .null, .null] [] T (ws_put I w σ) L
  refine pr_aload_n hA dX7_neededHold_0 rfl ?_
  refine pr_iload_n hA dX7_neededHold_1 rfl ?_
  refine pr_iload_n hA dX7_neededHold_2 rfl ?_
  refine pr_iload_n hA dX7_neededHold_3 rfl ?_
  exact pr_thV hA hXt rfl (t_findPath_1 (pr_hl hA) hw hx h1 h2 h3 h4 h5 hf) v_X7_202 (tx_k hx) (by decide) rfl rfl rfl (by decide) rfl dX7_neededHold_4
theorem t_pathLength_0 {g : pr_C} {l : Launch} (hl : l.stackTraces = false) {T : pr_T} {I : pr_I} {L : pr_L} {w : Nat} {σ : pr_I} (hw : pr_W T w) {x v sn f y : Nat} (hx : pr_X7 T x w v sn f y) {p1 : Int32}  (hf : p1 < 0 ∨ ¬ p1 < (σ 18 17)) : pr_M g l 9 1 6 mX7_pathLength [.ref x, .int p1] T (ws_put I w σ) L pr_nv (pr_Th eIOO T (ws_put I w σ) L) := by
  refine pr_ofG (by decide) rfl hl (Nat.le_of_ble_eq_true rfl) (fun X hA hX hXn hXt => ?_)
  subst hX
  show pr_G g X mX7_pathLength.2.2.1 _ 0 0 0 [.ref x, .int p1] [] T (ws_put I w σ) L
  refine pr_iload_n hA dX7_pathLength_0 rfl ?_
  refine pr_aload_n hA dX7_pathLength_1 rfl ?_
  refine pr_getR hA f_X7_10 rfl (tx_k hx) (tx_0 hx) dX7_pathLength_2 ?_
  refine pr_getR hA f_X7_131 rfl (wk_0 hw) (wf_0_2 hw) dX7_pathLength_5 ?_
  refine pr_getE (v := σ 18 17) hA f_X7_135 rfl (wk_18 hw) (ws_val (by decide)) dX7_pathLength_8 ?_
  exact pr_thS hA hXt rfl (c_ri_th (pr_hl hA) hf) s_X7_74 rfl (by decide) rfl dX7_pathLength_11
theorem t_pathLink_0 {g : pr_C} {l : Launch} (hl : l.stackTraces = false) {T : pr_T} {I : pr_I} {L : pr_L} {w : Nat} {σ : pr_I} (hw : pr_W T w) {x v sn f y : Nat} (hx : pr_X7 T x w v sn f y) {p1 p2 : Int32}  (hf : p1 < 0 ∨ ¬ p1 < (σ 18 17)) : pr_M g l 9 1 6 mX7_pathLink [.ref x, .int p1, .int p2] T (ws_put I w σ) L pr_nv (pr_Th eIOO T (ws_put I w σ) L) := by
  refine pr_ofG (by decide) rfl hl (Nat.le_of_ble_eq_true rfl) (fun X hA hX hXn hXt => ?_)
  subst hX
  show pr_G g X mX7_pathLink.2.2.1 _ 0 0 0 [.ref x, .int p1, .int p2, .null] [] T (ws_put I w σ) L
  refine pr_iload_n hA dX7_pathLink_0 rfl ?_
  refine pr_aload_n hA dX7_pathLink_1 rfl ?_
  refine pr_getR hA f_X7_10 rfl (tx_k hx) (tx_0 hx) dX7_pathLink_2 ?_
  refine pr_getR hA f_X7_131 rfl (wk_0 hw) (wf_0_2 hw) dX7_pathLink_5 ?_
  refine pr_getE (v := σ 18 17) hA f_X7_135 rfl (wk_18 hw) (ws_val (by decide)) dX7_pathLink_8 ?_
  exact pr_thS hA hXt rfl (c_ri_th (pr_hl hA) hf) s_X7_74 rfl (by decide) rfl dX7_pathLink_11
theorem t_placeOf_0 {g : pr_C} {l : Launch} (hl : l.stackTraces = false) {T : pr_T} {I : pr_I} {L : pr_L} {w : Nat} {σ : pr_I} (hw : pr_W T w) {x v sn f y : Nat} (hx : pr_X7 T x w v sn f y) {p1 : Int32}  (hf : p1 < 0 ∨ ¬ p1 < (σ 18 17)) : pr_M g l 9 1 6 mX7_placeOf [.ref x, .int p1] T (ws_put I w σ) L pr_nv (pr_Th eIOO T (ws_put I w σ) L) := by
  refine pr_ofG (by decide) rfl hl (Nat.le_of_ble_eq_true rfl) (fun X hA hX hXn hXt => ?_)
  subst hX
  show pr_G g X mX7_placeOf.2.2.1 _ 0 0 0 [.ref x, .int p1, .null] [] T (ws_put I w σ) L
  refine pr_iload_n hA dX7_placeOf_0 rfl ?_
  refine pr_aload_n hA dX7_placeOf_1 rfl ?_
  refine pr_getR hA f_X7_10 rfl (tx_k hx) (tx_0 hx) dX7_placeOf_2 ?_
  refine pr_getR hA f_X7_131 rfl (wk_0 hw) (wf_0_2 hw) dX7_placeOf_5 ?_
  refine pr_getE (v := σ 18 17) hA f_X7_135 rfl (wk_18 hw) (ws_val (by decide)) dX7_placeOf_8 ?_
  exact pr_thS hA hXt rfl (c_ri_th (pr_hl hA) hf) s_X7_74 rfl (by decide) rfl dX7_placeOf_11
theorem t_reachable_0 {g : pr_C} {l : Launch} (hl : l.stackTraces = false) {T : pr_T} {I : pr_I} {L : pr_L} {w : Nat} {σ : pr_I} (hw : pr_W T w) {x v sn f y : Nat} (hx : pr_X7 T x w v sn f y) {p1 p2 : Int32}  (hf : p1 < 0 ∨ ¬ p1 < (σ 0 6)) : pr_M g l 9 1 6 mX7_reachable [.ref x, .int p1, .int p2] T (ws_put I w σ) L pr_nv (pr_Th eIOO T (ws_put I w σ) L) := by
  refine pr_ofG (by decide) rfl hl (Nat.le_of_ble_eq_true rfl) (fun X hA hX hXn hXt => ?_)
  subst hX
  show pr_G g X mX7_reachable.2.2.1 _ 0 0 0 [.ref x, .int p1, .int p2] [] T (ws_put I w σ) L
  refine pr_iload_n hA dX7_reachable_0 rfl ?_
  refine pr_aload_n hA dX7_reachable_1 rfl ?_
  refine pr_getR hA f_X7_10 rfl (tx_k hx) (tx_0 hx) dX7_reachable_2 ?_
  refine pr_getE (v := σ 0 6) hA f_X7_71 rfl (wk_0 hw) ws_val0 dX7_reachable_5 ?_
  exact pr_thS hA hXt rfl (c_ri_th (pr_hl hA) hf) s_X7_74 rfl (by decide) rfl dX7_reachable_8
theorem t_reachable_1 {g : pr_C} {l : Launch} (hl : l.stackTraces = false) {T : pr_T} {I : pr_I} {L : pr_L} {w : Nat} {σ : pr_I} (hw : pr_W T w) {x v sn f y : Nat} (hx : pr_X7 T x w v sn f y) {p1 p2 : Int32} (h0a : ¬ p1 < 0) (h0b : p1 < (σ 0 6)) (hf : p2 < (0 : Int32) ∨ ¬ p2 ≤ (1000 : Int32)) : pr_M g l 9 1 6 mX7_reachable [.ref x, .int p1, .int p2] T (ws_put I w σ) L pr_nv (pr_Th eIAE T (ws_put I w σ) L) := by
  refine pr_ofG (by decide) rfl hl (Nat.le_of_ble_eq_true rfl) (fun X hA hX hXn hXt => ?_)
  subst hX
  show pr_G g X mX7_reachable.2.2.1 _ 0 0 0 [.ref x, .int p1, .int p2] [] T (ws_put I w σ) L
  refine pr_iload_n hA dX7_reachable_0 rfl ?_
  refine pr_aload_n hA dX7_reachable_1 rfl ?_
  refine pr_getR hA f_X7_10 rfl (tx_k hx) (tx_0 hx) dX7_reachable_2 ?_
  refine pr_getE (v := σ 0 6) hA f_X7_71 rfl (wk_0 hw) ws_val0 dX7_reachable_5 ?_
  refine pr_callSv hA [.int p1, .int (σ 0 6)] (c_ri_ok2 (pr_hl hA) h0a h0b) s_X7_74 rfl (by decide) (Nat.zero_le _) (Nat.zero_le _) rfl (Nat.le_of_ble_eq_true rfl) dX7_reachable_8 ?_
  refine pr_iload_n hA dX7_reachable_11 rfl ?_
  refine pr_iconst hA (0) dX7_reachable_12 (by decide) ?_
  refine pr_sipush hA (1000) dX7_reachable_13 (by decide) ?_
  exact pr_thS hA hXt rfl (c_rr_th (pr_hl hA) hf) s_X7_86 rfl (by decide) rfl dX7_reachable_16
theorem t_request_0i {g : pr_C} {l : Launch} (hl : l.stackTraces = false) {T : pr_T} {I : pr_I} {L : pr_L} {w : Nat} {σ : pr_I} (hw : pr_W T w) {x v sn f y : Nat} (hx : pr_X7 T x w v sn f y) {p1 p2 p3 p4 : Int32}  (hf : (p1 < 0 ∨ ¬ p1 < σ 0 6) ∨ (p2 < 0 ∨ ¬ p2 < σ 0 6)) : pr_M g l 9 1 6 mX7_request [.ref x, .int p1, .int p2, .int p3, .int p4] T (ws_put I w σ) L pr_nv (pr_Th eIOO T (ws_put I w σ) L) := by
  refine pr_ofG (by decide) rfl hl (Nat.le_of_ble_eq_true rfl) (fun X hA hX hXn hXt => ?_)
  subst hX
  show pr_G g X mX7_request.2.2.1 _ 0 0 0 [.ref x, .int p1, .int p2, .int p3, .int p4] [] T (ws_put I w σ) L
  refine pr_aload_n hA dX7_request_0 rfl ?_
  refine pr_iload_n hA dX7_request_1 rfl ?_
  refine pr_iload_n hA dX7_request_2 rfl ?_
  exact pr_thV hA hXt rfl (c_rp_ti (pr_hl hA) hw hx hf) v_X7_124 (tx_k hx) (by decide) rfl rfl rfl (by decide) rfl dX7_request_3
theorem t_request_0p {g : pr_C} {l : Launch} (hl : l.stackTraces = false) {T : pr_T} {I : pr_I} {L : pr_L} {w : Nat} {σ : pr_I} (hw : pr_W T w) {x v sn f y : Nat} (hx : pr_X7 T x w v sn f y) {p1 p2 p3 p4 : Int32}  (h1 : ¬ p1 < 0) (h2 : p1 < σ 0 6) (h3 : ¬ p2 < 0) (h4 : p2 < σ 0 6) (h5 : p1 = p2) : pr_M g l 9 1 6 mX7_request [.ref x, .int p1, .int p2, .int p3, .int p4] T (ws_put I w σ) L pr_nv (pr_Th eIAE T (ws_put I w σ) L) := by
  refine pr_ofG (by decide) rfl hl (Nat.le_of_ble_eq_true rfl) (fun X hA hX hXn hXt => ?_)
  subst hX
  show pr_G g X mX7_request.2.2.1 _ 0 0 0 [.ref x, .int p1, .int p2, .int p3, .int p4] [] T (ws_put I w σ) L
  refine pr_aload_n hA dX7_request_0 rfl ?_
  refine pr_iload_n hA dX7_request_1 rfl ?_
  refine pr_iload_n hA dX7_request_2 rfl ?_
  exact pr_thV hA hXt rfl (c_rp_tp (pr_hl hA) hw hx h1 h2 h3 h4 h5) v_X7_124 (tx_k hx) (by decide) rfl rfl rfl (by decide) rfl dX7_request_3
theorem t_request_1 {g : pr_C} {l : Launch} (hl : l.stackTraces = false) {T : pr_T} {I : pr_I} {L : pr_L} {w : Nat} {σ : pr_I} (hw : pr_W T w) {x v sn f y : Nat} (hx : pr_X7 T x w v sn f y) {p1 p2 p3 p4 : Int32} (h0a : ¬ p1 < 0) (h0b : p1 < σ 0 6) (h0c : ¬ p2 < 0) (h0d : p2 < σ 0 6) (h0e : p1 ≠ p2) (hf : p3 < (1 : Int32) ∨ ¬ p3 ≤ (1000 : Int32)) : pr_M g l 9 1 6 mX7_request [.ref x, .int p1, .int p2, .int p3, .int p4] T (ws_put I w σ) L pr_nv (pr_Th eIAE T (ws_put I w σ) L) := by
  refine pr_ofG (by decide) rfl hl (Nat.le_of_ble_eq_true rfl) (fun X hA hX hXn hXt => ?_)
  subst hX
  show pr_G g X mX7_request.2.2.1 _ 0 0 0 [.ref x, .int p1, .int p2, .int p3, .int p4] [] T (ws_put I w σ) L
  refine pr_aload_n hA dX7_request_0 rfl ?_
  refine pr_iload_n hA dX7_request_1 rfl ?_
  refine pr_iload_n hA dX7_request_2 rfl ?_
  refine pr_callVv hA [.int p1, .int p2] (c_rp_ok2 (pr_hl hA) hw hx h0a h0b h0c h0d h0e) v_X7_124 (tx_k hx) (by decide) rfl rfl rfl (by decide) (Nat.zero_le _) (Nat.zero_le _) rfl (Nat.le_of_ble_eq_true rfl) dX7_request_3 ?_
  refine pr_iload_n hA dX7_request_6 rfl ?_
  refine pr_iconst hA (1) dX7_request_7 (by decide) ?_
  refine pr_sipush hA (1000) dX7_request_8 (by decide) ?_
  exact pr_thS hA hXt rfl (c_rr_th (pr_hl hA) hf) s_X7_86 rfl (by decide) rfl dX7_request_11
theorem t_request_2 {g : pr_C} {l : Launch} (hl : l.stackTraces = false) {T : pr_T} {I : pr_I} {L : pr_L} {w : Nat} {σ : pr_I} (hw : pr_W T w) {x v sn f y : Nat} (hx : pr_X7 T x w v sn f y) {p1 p2 p3 p4 : Int32} (h0a : ¬ p1 < 0) (h0b : p1 < σ 0 6) (h0c : ¬ p2 < 0) (h0d : p2 < σ 0 6) (h0e : p1 ≠ p2) (h1a : (1 : Int32) ≤ p3) (h1b : p3 ≤ (1000 : Int32)) (hf : p4 < (1 : Int32) ∨ ¬ p4 ≤ (10000 : Int32)) : pr_M g l 9 1 6 mX7_request [.ref x, .int p1, .int p2, .int p3, .int p4] T (ws_put I w σ) L pr_nv (pr_Th eIAE T (ws_put I w σ) L) := by
  refine pr_ofG (by decide) rfl hl (Nat.le_of_ble_eq_true rfl) (fun X hA hX hXn hXt => ?_)
  subst hX
  show pr_G g X mX7_request.2.2.1 _ 0 0 0 [.ref x, .int p1, .int p2, .int p3, .int p4] [] T (ws_put I w σ) L
  refine pr_aload_n hA dX7_request_0 rfl ?_
  refine pr_iload_n hA dX7_request_1 rfl ?_
  refine pr_iload_n hA dX7_request_2 rfl ?_
  refine pr_callVv hA [.int p1, .int p2] (c_rp_ok2 (pr_hl hA) hw hx h0a h0b h0c h0d h0e) v_X7_124 (tx_k hx) (by decide) rfl rfl rfl (by decide) (Nat.zero_le _) (Nat.zero_le _) rfl (Nat.le_of_ble_eq_true rfl) dX7_request_3 ?_
  refine pr_iload_n hA dX7_request_6 rfl ?_
  refine pr_iconst hA (1) dX7_request_7 (by decide) ?_
  refine pr_sipush hA (1000) dX7_request_8 (by decide) ?_
  refine pr_callSv hA [.int p3, .int (1 : Int32), .int (1000 : Int32)] (c_rr_ok (pr_hl hA) h1a h1b) s_X7_86 rfl (by decide) (Nat.zero_le _) (Nat.zero_le _) rfl (Nat.le_of_ble_eq_true rfl) dX7_request_11 ?_
  refine pr_iload hA dX7_request_14 rfl ?_
  refine pr_iconst hA (1) dX7_request_16 (by decide) ?_
  refine pr_sipush hA (10000) dX7_request_17 (by decide) ?_
  exact pr_thS hA hXt rfl (c_rr_th (pr_hl hA) hf) s_X7_86 rfl (by decide) rfl dX7_request_20
theorem t_requestInState_0 {g : pr_C} {l : Launch} (hl : l.stackTraces = false) {T : pr_T} {I : pr_I} {L : pr_L} {w : Nat} {σ : pr_I} (hw : pr_W T w) {x v sn f y : Nat} (hx : pr_X7 T x w v sn f y) {p1 p2 : Int32}  (hf : p1 < (0 : Int32) ∨ ¬ p1 ≤ (7 : Int32)) : pr_M g l 9 1 6 mX7_requestInState [.ref x, .int p1, .int p2] T (ws_put I w σ) L pr_nv (pr_Th eIAE T (ws_put I w σ) L) := by
  refine pr_ofG (by decide) rfl hl (Nat.le_of_ble_eq_true rfl) (fun X hA hX hXn hXt => ?_)
  subst hX
  show pr_G g X mX7_requestInState.2.2.1 _ 0 0 0 [.ref x, .int p1, .int p2] [] T (ws_put I w σ) L
  refine pr_iload_n hA dX7_requestInState_0 rfl ?_
  refine pr_iconst hA (0) dX7_requestInState_1 (by decide) ?_
  refine pr_bipush hA (7) dX7_requestInState_2 (by decide) ?_
  exact pr_thS hA hXt rfl (c_rr_th (pr_hl hA) hf) s_X7_86 rfl (by decide) rfl dX7_requestInState_4
theorem t_requestValue_0 {g : pr_C} {l : Launch} (hl : l.stackTraces = false) {T : pr_T} {I : pr_I} {L : pr_L} {w : Nat} {σ : pr_I} (hw : pr_W T w) {x v sn f y : Nat} (hx : pr_X7 T x w v sn f y) {p1 p2 : Int32}  (hf : p1 < 0 ∨ ¬ p1 < (σ 18 17)) : pr_M g l 9 1 6 mX7_requestValue [.ref x, .int p1, .int p2] T (ws_put I w σ) L pr_nv (pr_Th eIOO T (ws_put I w σ) L) := by
  refine pr_ofG (by decide) rfl hl (Nat.le_of_ble_eq_true rfl) (fun X hA hX hXn hXt => ?_)
  subst hX
  show pr_G g X mX7_requestValue.2.2.1 _ 0 0 0 [.ref x, .int p1, .int p2] [] T (ws_put I w σ) L
  refine pr_iload_n hA dX7_requestValue_0 rfl ?_
  refine pr_aload_n hA dX7_requestValue_1 rfl ?_
  refine pr_getR hA f_X7_10 rfl (tx_k hx) (tx_0 hx) dX7_requestValue_2 ?_
  refine pr_getR hA f_X7_131 rfl (wk_0 hw) (wf_0_2 hw) dX7_requestValue_5 ?_
  refine pr_getE (v := σ 18 17) hA f_X7_135 rfl (wk_18 hw) (ws_val (by decide)) dX7_requestValue_8 ?_
  exact pr_thS hA hXt rfl (c_ri_th (pr_hl hA) hf) s_X7_74 rfl (by decide) rfl dX7_requestValue_11
theorem t_requestValue_1 {g : pr_C} {l : Launch} (hl : l.stackTraces = false) {T : pr_T} {I : pr_I} {L : pr_L} {w : Nat} {σ : pr_I} (hw : pr_W T w) {x v sn f y : Nat} (hx : pr_X7 T x w v sn f y) {p1 p2 : Int32} (h0a : ¬ p1 < 0) (h0b : p1 < (σ 18 17)) (hf : p2 < (0 : Int32) ∨ ¬ p2 ≤ (12 : Int32)) : pr_M g l 9 1 6 mX7_requestValue [.ref x, .int p1, .int p2] T (ws_put I w σ) L pr_nv (pr_Th eIAE T (ws_put I w σ) L) := by
  refine pr_ofG (by decide) rfl hl (Nat.le_of_ble_eq_true rfl) (fun X hA hX hXn hXt => ?_)
  subst hX
  show pr_G g X mX7_requestValue.2.2.1 _ 0 0 0 [.ref x, .int p1, .int p2] [] T (ws_put I w σ) L
  refine pr_iload_n hA dX7_requestValue_0 rfl ?_
  refine pr_aload_n hA dX7_requestValue_1 rfl ?_
  refine pr_getR hA f_X7_10 rfl (tx_k hx) (tx_0 hx) dX7_requestValue_2 ?_
  refine pr_getR hA f_X7_131 rfl (wk_0 hw) (wf_0_2 hw) dX7_requestValue_5 ?_
  refine pr_getE (v := σ 18 17) hA f_X7_135 rfl (wk_18 hw) (ws_val (by decide)) dX7_requestValue_8 ?_
  refine pr_callSv hA [.int p1, .int (σ 18 17)] (c_ri_ok2 (pr_hl hA) h0a h0b) s_X7_74 rfl (by decide) (Nat.zero_le _) (Nat.zero_le _) rfl (Nat.le_of_ble_eq_true rfl) dX7_requestValue_11 ?_
  refine pr_iload_n hA dX7_requestValue_14 rfl ?_
  refine pr_iconst hA (0) dX7_requestValue_15 (by decide) ?_
  refine pr_bipush hA (12) dX7_requestValue_16 (by decide) ?_
  exact pr_thS hA hXt rfl (c_rr_th (pr_hl hA) hf) s_X7_86 rfl (by decide) rfl dX7_requestValue_18
theorem t_restoreSnapshot_0 {g : pr_C} {l : Launch} (hl : l.stackTraces = false) {T : pr_T} {I : pr_I} {L : pr_L} {w : Nat} {σ : pr_I} (hw : pr_W T w) {x v sn f y : Nat} (hx : pr_X7 T x w v sn f y) {p1 : Int32}  (hf : p1 < (0 : Int32) ∨ ¬ p1 ≤ (1 : Int32)) : pr_M g l 9 1 6 mX7_restoreSnapshot [.ref x, .int p1] T (ws_put I w σ) L pr_nv (pr_Th eIAE T (ws_put I w σ) L) := by
  refine pr_ofG (by decide) rfl hl (Nat.le_of_ble_eq_true rfl) (fun X hA hX hXn hXt => ?_)
  subst hX
  show pr_G g X mX7_restoreSnapshot.2.2.1 _ 0 0 0 [.ref x, .int p1] [] T (ws_put I w σ) L
  refine pr_iload_n hA dX7_restoreSnapshot_0 rfl ?_
  refine pr_iconst hA (0) dX7_restoreSnapshot_1 (by decide) ?_
  refine pr_iconst hA (1) dX7_restoreSnapshot_2 (by decide) ?_
  exact pr_thS hA hXt rfl (c_rr_th (pr_hl hA) hf) s_X7_86 rfl (by decide) rfl dX7_restoreSnapshot_3
theorem t_revenueAfter_0 {g : pr_C} {l : Launch} (hl : l.stackTraces = false) {T : pr_T} {I : pr_I} {L : pr_L} {w : Nat} {σ : pr_I} (hw : pr_W T w) {x v sn f y : Nat} (hx : pr_X7 T x w v sn f y) {p1 : Int32}  (hf : p1 < (0 : Int32) ∨ ¬ p1 ≤ (2000 : Int32)) : pr_M g l 9 1 6 mX7_revenueAfter [.ref x, .int p1] T (ws_put I w σ) L pr_nv (pr_Th eIAE T (ws_put I w σ) L) := by
  refine pr_ofG (by decide) rfl hl (Nat.le_of_ble_eq_true rfl) (fun X hA hX hXn hXt => ?_)
  subst hX
  show pr_G g X mX7_revenueAfter.2.2.1 _ 0 0 0 [.ref x, .int p1] [] T (ws_put I w σ) L
  refine pr_iload_n hA dX7_revenueAfter_0 rfl ?_
  refine pr_iconst hA (0) dX7_revenueAfter_1 (by decide) ?_
  refine pr_sipush hA (2000) dX7_revenueAfter_2 (by decide) ?_
  exact pr_thS hA hXt rfl (c_rr_th (pr_hl hA) hf) s_X7_86 rfl (by decide) rfl dX7_revenueAfter_5
theorem t_roundTrip_0i {g : pr_C} {l : Launch} (hl : l.stackTraces = false) {T : pr_T} {I : pr_I} {L : pr_L} {w : Nat} {σ : pr_I} (hw : pr_W T w) {x v sn f y : Nat} (hx : pr_X7 T x w v sn f y) {p1 p2 p3 : Int32}  (hf : (p1 < 0 ∨ ¬ p1 < σ 0 6) ∨ (p2 < 0 ∨ ¬ p2 < σ 0 6)) : pr_M g l 9 1 6 mX7_roundTrip [.ref x, .int p1, .int p2, .int p3] T (ws_put I w σ) L pr_nv (pr_Th eIOO T (ws_put I w σ) L) := by
  refine pr_ofG (by decide) rfl hl (Nat.le_of_ble_eq_true rfl) (fun X hA hX hXn hXt => ?_)
  subst hX
  show pr_G g X mX7_roundTrip.2.2.1 _ 0 0 0 [.ref x, .int p1, .int p2, .int p3, .null] [] T (ws_put I w σ) L
  refine pr_aload_n hA dX7_roundTrip_0 rfl ?_
  refine pr_iload_n hA dX7_roundTrip_1 rfl ?_
  refine pr_iload_n hA dX7_roundTrip_2 rfl ?_
  refine pr_iload_n hA dX7_roundTrip_3 rfl ?_
  exact pr_thV hA hXt rfl (t_findPath_0i (pr_hl hA) hw hx hf) v_X7_202 (tx_k hx) (by decide) rfl rfl rfl (by decide) rfl dX7_roundTrip_4
theorem t_roundTrip_0p {g : pr_C} {l : Launch} (hl : l.stackTraces = false) {T : pr_T} {I : pr_I} {L : pr_L} {w : Nat} {σ : pr_I} (hw : pr_W T w) {x v sn f y : Nat} (hx : pr_X7 T x w v sn f y) {p1 p2 p3 : Int32}  (h1 : ¬ p1 < 0) (h2 : p1 < σ 0 6) (h3 : ¬ p2 < 0) (h4 : p2 < σ 0 6) (h5 : p1 = p2) : pr_M g l 9 1 6 mX7_roundTrip [.ref x, .int p1, .int p2, .int p3] T (ws_put I w σ) L pr_nv (pr_Th eIAE T (ws_put I w σ) L) := by
  refine pr_ofG (by decide) rfl hl (Nat.le_of_ble_eq_true rfl) (fun X hA hX hXn hXt => ?_)
  subst hX
  show pr_G g X mX7_roundTrip.2.2.1 _ 0 0 0 [.ref x, .int p1, .int p2, .int p3, .null] [] T (ws_put I w σ) L
  refine pr_aload_n hA dX7_roundTrip_0 rfl ?_
  refine pr_iload_n hA dX7_roundTrip_1 rfl ?_
  refine pr_iload_n hA dX7_roundTrip_2 rfl ?_
  refine pr_iload_n hA dX7_roundTrip_3 rfl ?_
  exact pr_thV hA hXt rfl (t_findPath_0p (pr_hl hA) hw hx h1 h2 h3 h4 h5) v_X7_202 (tx_k hx) (by decide) rfl rfl rfl (by decide) rfl dX7_roundTrip_4
theorem t_roundTrip_0r {g : pr_C} {l : Launch} (hl : l.stackTraces = false) {T : pr_T} {I : pr_I} {L : pr_L} {w : Nat} {σ : pr_I} (hw : pr_W T w) {x v sn f y : Nat} (hx : pr_X7 T x w v sn f y) {p1 p2 p3 : Int32}  (h1 : ¬ p1 < 0) (h2 : p1 < σ 0 6) (h3 : ¬ p2 < 0) (h4 : p2 < σ 0 6) (h5 : p1 ≠ p2) (hf : p3 < (0 : Int32) ∨ ¬ p3 ≤ (1000 : Int32)) : pr_M g l 9 1 6 mX7_roundTrip [.ref x, .int p1, .int p2, .int p3] T (ws_put I w σ) L pr_nv (pr_Th eIAE T (ws_put I w σ) L) := by
  refine pr_ofG (by decide) rfl hl (Nat.le_of_ble_eq_true rfl) (fun X hA hX hXn hXt => ?_)
  subst hX
  show pr_G g X mX7_roundTrip.2.2.1 _ 0 0 0 [.ref x, .int p1, .int p2, .int p3, .null] [] T (ws_put I w σ) L
  refine pr_aload_n hA dX7_roundTrip_0 rfl ?_
  refine pr_iload_n hA dX7_roundTrip_1 rfl ?_
  refine pr_iload_n hA dX7_roundTrip_2 rfl ?_
  refine pr_iload_n hA dX7_roundTrip_3 rfl ?_
  exact pr_thV hA hXt rfl (t_findPath_1 (pr_hl hA) hw hx h1 h2 h3 h4 h5 hf) v_X7_202 (tx_k hx) (by decide) rfl rfl rfl (by decide) rfl dX7_roundTrip_4
theorem t_saveSnapshot_0 {g : pr_C} {l : Launch} (hl : l.stackTraces = false) {T : pr_T} {I : pr_I} {L : pr_L} {w : Nat} {σ : pr_I} (hw : pr_W T w) {x v sn f y : Nat} (hx : pr_X7 T x w v sn f y) {p1 : Int32}  (hf : p1 < (0 : Int32) ∨ ¬ p1 ≤ (1 : Int32)) : pr_M g l 9 1 6 mX7_saveSnapshot [.ref x, .int p1] T (ws_put I w σ) L pr_nv (pr_Th eIAE T (ws_put I w σ) L) := by
  refine pr_ofG (by decide) rfl hl (Nat.le_of_ble_eq_true rfl) (fun X hA hX hXn hXt => ?_)
  subst hX
  show pr_G g X mX7_saveSnapshot.2.2.1 _ 0 0 0 [.ref x, .int p1] [] T (ws_put I w σ) L
  refine pr_iload_n hA dX7_saveSnapshot_0 rfl ?_
  refine pr_iconst hA (0) dX7_saveSnapshot_1 (by decide) ?_
  refine pr_iconst hA (1) dX7_saveSnapshot_2 (by decide) ?_
  exact pr_thS hA hXt rfl (c_rr_th (pr_hl hA) hf) s_X7_86 rfl (by decide) rfl dX7_saveSnapshot_3
theorem t_setCapacity_0 {g : pr_C} {l : Launch} (hl : l.stackTraces = false) {T : pr_T} {I : pr_I} {L : pr_L} {w : Nat} {σ : pr_I} (hw : pr_W T w) {x v sn f y : Nat} (hx : pr_X7 T x w v sn f y) {p1 p2 : Int32}  (hf : p1 < 0 ∨ ¬ p1 < (σ 1 8)) : pr_M g l 9 1 6 mX7_setCapacity [.ref x, .int p1, .int p2] T (ws_put I w σ) L pr_nv (pr_Th eIOO T (ws_put I w σ) L) := by
  refine pr_ofG (by decide) rfl hl (Nat.le_of_ble_eq_true rfl) (fun X hA hX hXn hXt => ?_)
  subst hX
  show pr_G g X mX7_setCapacity.2.2.1 _ 0 0 0 [.ref x, .int p1, .int p2, .null] [] T (ws_put I w σ) L
  refine pr_iload_n hA dX7_setCapacity_0 rfl ?_
  refine pr_aload_n hA dX7_setCapacity_1 rfl ?_
  refine pr_getR hA f_X7_10 rfl (tx_k hx) (tx_0 hx) dX7_setCapacity_2 ?_
  refine pr_getR hA f_X7_55 rfl (wk_0 hw) (wf_0_0 hw) dX7_setCapacity_5 ?_
  refine pr_getE (v := σ 1 8) hA f_X7_59 rfl (wk_1 hw) (ws_val (by decide)) dX7_setCapacity_8 ?_
  exact pr_thS hA hXt rfl (c_ri_th (pr_hl hA) hf) s_X7_74 rfl (by decide) rfl dX7_setCapacity_11
theorem t_setCapacity_1 {g : pr_C} {l : Launch} (hl : l.stackTraces = false) {T : pr_T} {I : pr_I} {L : pr_L} {w : Nat} {σ : pr_I} (hw : pr_W T w) {x v sn f y : Nat} (hx : pr_X7 T x w v sn f y) {p1 p2 : Int32} (h0a : ¬ p1 < 0) (h0b : p1 < (σ 1 8)) (hf : p2 < (0 : Int32) ∨ ¬ p2 ≤ (1000 : Int32)) : pr_M g l 9 1 6 mX7_setCapacity [.ref x, .int p1, .int p2] T (ws_put I w σ) L pr_nv (pr_Th eIAE T (ws_put I w σ) L) := by
  refine pr_ofG (by decide) rfl hl (Nat.le_of_ble_eq_true rfl) (fun X hA hX hXn hXt => ?_)
  subst hX
  show pr_G g X mX7_setCapacity.2.2.1 _ 0 0 0 [.ref x, .int p1, .int p2, .null] [] T (ws_put I w σ) L
  refine pr_iload_n hA dX7_setCapacity_0 rfl ?_
  refine pr_aload_n hA dX7_setCapacity_1 rfl ?_
  refine pr_getR hA f_X7_10 rfl (tx_k hx) (tx_0 hx) dX7_setCapacity_2 ?_
  refine pr_getR hA f_X7_55 rfl (wk_0 hw) (wf_0_0 hw) dX7_setCapacity_5 ?_
  refine pr_getE (v := σ 1 8) hA f_X7_59 rfl (wk_1 hw) (ws_val (by decide)) dX7_setCapacity_8 ?_
  refine pr_callSv hA [.int p1, .int (σ 1 8)] (c_ri_ok2 (pr_hl hA) h0a h0b) s_X7_74 rfl (by decide) (Nat.zero_le _) (Nat.zero_le _) rfl (Nat.le_of_ble_eq_true rfl) dX7_setCapacity_11 ?_
  refine pr_iload_n hA dX7_setCapacity_14 rfl ?_
  refine pr_iconst hA (0) dX7_setCapacity_15 (by decide) ?_
  refine pr_sipush hA (1000) dX7_setCapacity_16 (by decide) ?_
  exact pr_thS hA hXt rfl (c_rr_th (pr_hl hA) hf) s_X7_86 rfl (by decide) rfl dX7_setCapacity_19
theorem t_setSetting_0 {g : pr_C} {l : Launch} (hl : l.stackTraces = false) {T : pr_T} {I : pr_I} {L : pr_L} {w : Nat} {σ : pr_I} (hw : pr_W T w) {x v sn f y : Nat} (hx : pr_X7 T x w v sn f y) {p1 p2 : Int32}  (hf : p1 < (0 : Int32) ∨ ¬ p1 ≤ (4 : Int32)) : pr_M g l 9 1 6 mX7_setSetting [.ref x, .int p1, .int p2] T (ws_put I w σ) L pr_nv (pr_Th eIAE T (ws_put I w σ) L) := by
  refine pr_ofG (by decide) rfl hl (Nat.le_of_ble_eq_true rfl) (fun X hA hX hXn hXt => ?_)
  subst hX
  show pr_G g X mX7_setSetting.2.2.1 _ 0 0 0 [.ref x, .int p1, .int p2, .null] [] T (ws_put I w σ) L
  refine pr_iload_n hA dX7_setSetting_0 rfl ?_
  refine pr_iconst hA (0) dX7_setSetting_1 (by decide) ?_
  refine pr_iconst hA (4) dX7_setSetting_2 (by decide) ?_
  exact pr_thS hA hXt rfl (c_rr_th (pr_hl hA) hf) s_X7_86 rfl (by decide) rfl dX7_setSetting_3
theorem t_setting_0 {g : pr_C} {l : Launch} (hl : l.stackTraces = false) {T : pr_T} {I : pr_I} {L : pr_L} {w : Nat} {σ : pr_I} (hw : pr_W T w) {x v sn f y : Nat} (hx : pr_X7 T x w v sn f y) {p1 : Int32}  (hf : p1 < (0 : Int32) ∨ ¬ p1 ≤ (4 : Int32)) : pr_M g l 9 1 6 mX7_setting [.ref x, .int p1] T (ws_put I w σ) L pr_nv (pr_Th eIAE T (ws_put I w σ) L) := by
  refine pr_ofG (by decide) rfl hl (Nat.le_of_ble_eq_true rfl) (fun X hA hX hXn hXt => ?_)
  subst hX
  show pr_G g X mX7_setting.2.2.1 _ 0 0 0 [.ref x, .int p1] [] T (ws_put I w σ) L
  refine pr_iload_n hA dX7_setting_0 rfl ?_
  refine pr_iconst hA (0) dX7_setting_1 (by decide) ?_
  refine pr_iconst hA (4) dX7_setting_2 (by decide) ?_
  exact pr_thS hA hXt rfl (c_rr_th (pr_hl hA) hf) s_X7_86 rfl (by decide) rfl dX7_setting_3
theorem t_smallestCut_0i {g : pr_C} {l : Launch} (hl : l.stackTraces = false) {T : pr_T} {I : pr_I} {L : pr_L} {w : Nat} {σ : pr_I} (hw : pr_W T w) {x v sn f y : Nat} (hx : pr_X7 T x w v sn f y) {p1 p2 : Int32}  (hf : (p1 < 0 ∨ ¬ p1 < σ 0 6) ∨ (p2 < 0 ∨ ¬ p2 < σ 0 6)) : pr_M g l 9 1 6 mX7_smallestCut [.ref x, .int p1, .int p2] T (ws_put I w σ) L pr_nv (pr_Th eIOO T (ws_put I w σ) L) := by
  refine pr_ofG (by decide) rfl hl (Nat.le_of_ble_eq_true rfl) (fun X hA hX hXn hXt => ?_)
  subst hX
  show pr_G g X mX7_smallestCut.2.2.1 _ 0 0 0 [.ref x, .int p1, .int p2, .null, .null, .null] [] T (ws_put I w σ) L
  refine pr_aload_n hA dX7_smallestCut_0 rfl ?_
  refine pr_iload_n hA dX7_smallestCut_1 rfl ?_
  refine pr_iload_n hA dX7_smallestCut_2 rfl ?_
  exact pr_thV hA hXt rfl (c_rp_ti (pr_hl hA) hw hx hf) v_X7_124 (tx_k hx) (by decide) rfl rfl rfl (by decide) rfl dX7_smallestCut_3
theorem t_smallestCut_0p {g : pr_C} {l : Launch} (hl : l.stackTraces = false) {T : pr_T} {I : pr_I} {L : pr_L} {w : Nat} {σ : pr_I} (hw : pr_W T w) {x v sn f y : Nat} (hx : pr_X7 T x w v sn f y) {p1 p2 : Int32}  (h1 : ¬ p1 < 0) (h2 : p1 < σ 0 6) (h3 : ¬ p2 < 0) (h4 : p2 < σ 0 6) (h5 : p1 = p2) : pr_M g l 9 1 6 mX7_smallestCut [.ref x, .int p1, .int p2] T (ws_put I w σ) L pr_nv (pr_Th eIAE T (ws_put I w σ) L) := by
  refine pr_ofG (by decide) rfl hl (Nat.le_of_ble_eq_true rfl) (fun X hA hX hXn hXt => ?_)
  subst hX
  show pr_G g X mX7_smallestCut.2.2.1 _ 0 0 0 [.ref x, .int p1, .int p2, .null, .null, .null] [] T (ws_put I w σ) L
  refine pr_aload_n hA dX7_smallestCut_0 rfl ?_
  refine pr_iload_n hA dX7_smallestCut_1 rfl ?_
  refine pr_iload_n hA dX7_smallestCut_2 rfl ?_
  exact pr_thV hA hXt rfl (c_rp_tp (pr_hl hA) hw hx h1 h2 h3 h4 h5) v_X7_124 (tx_k hx) (by decide) rfl rfl rfl (by decide) rfl dX7_smallestCut_3
theorem t_stateAfter_0 {g : pr_C} {l : Launch} (hl : l.stackTraces = false) {T : pr_T} {I : pr_I} {L : pr_L} {w : Nat} {σ : pr_I} (hw : pr_W T w) {x v sn f y : Nat} (hx : pr_X7 T x w v sn f y) {p1 p2 : Int32}  (hf : p1 < 0 ∨ ¬ p1 < (σ 18 17)) : pr_M g l 9 1 6 mX7_stateAfter [.ref x, .int p1, .int p2] T (ws_put I w σ) L pr_nv (pr_Th eIOO T (ws_put I w σ) L) := by
  refine pr_ofG (by decide) rfl hl (Nat.le_of_ble_eq_true rfl) (fun X hA hX hXn hXt => ?_)
  subst hX
  show pr_G g X mX7_stateAfter.2.2.1 _ 0 0 0 [.ref x, .int p1, .int p2] [] T (ws_put I w σ) L
  refine pr_iload_n hA dX7_stateAfter_0 rfl ?_
  refine pr_aload_n hA dX7_stateAfter_1 rfl ?_
  refine pr_getR hA f_X7_10 rfl (tx_k hx) (tx_0 hx) dX7_stateAfter_2 ?_
  refine pr_getR hA f_X7_131 rfl (wk_0 hw) (wf_0_2 hw) dX7_stateAfter_5 ?_
  refine pr_getE (v := σ 18 17) hA f_X7_135 rfl (wk_18 hw) (ws_val (by decide)) dX7_stateAfter_8 ?_
  exact pr_thS hA hXt rfl (c_ri_th (pr_hl hA) hf) s_X7_74 rfl (by decide) rfl dX7_stateAfter_11
theorem t_stateAfter_1 {g : pr_C} {l : Launch} (hl : l.stackTraces = false) {T : pr_T} {I : pr_I} {L : pr_L} {w : Nat} {σ : pr_I} (hw : pr_W T w) {x v sn f y : Nat} (hx : pr_X7 T x w v sn f y) {p1 p2 : Int32} (h0a : ¬ p1 < 0) (h0b : p1 < (σ 18 17)) (hf : p2 < (0 : Int32) ∨ ¬ p2 ≤ (2000 : Int32)) : pr_M g l 9 1 6 mX7_stateAfter [.ref x, .int p1, .int p2] T (ws_put I w σ) L pr_nv (pr_Th eIAE T (ws_put I w σ) L) := by
  refine pr_ofG (by decide) rfl hl (Nat.le_of_ble_eq_true rfl) (fun X hA hX hXn hXt => ?_)
  subst hX
  show pr_G g X mX7_stateAfter.2.2.1 _ 0 0 0 [.ref x, .int p1, .int p2] [] T (ws_put I w σ) L
  refine pr_iload_n hA dX7_stateAfter_0 rfl ?_
  refine pr_aload_n hA dX7_stateAfter_1 rfl ?_
  refine pr_getR hA f_X7_10 rfl (tx_k hx) (tx_0 hx) dX7_stateAfter_2 ?_
  refine pr_getR hA f_X7_131 rfl (wk_0 hw) (wf_0_2 hw) dX7_stateAfter_5 ?_
  refine pr_getE (v := σ 18 17) hA f_X7_135 rfl (wk_18 hw) (ws_val (by decide)) dX7_stateAfter_8 ?_
  refine pr_callSv hA [.int p1, .int (σ 18 17)] (c_ri_ok2 (pr_hl hA) h0a h0b) s_X7_74 rfl (by decide) (Nat.zero_le _) (Nat.zero_le _) rfl (Nat.le_of_ble_eq_true rfl) dX7_stateAfter_11 ?_
  refine pr_iload_n hA dX7_stateAfter_14 rfl ?_
  refine pr_iconst hA (0) dX7_stateAfter_15 (by decide) ?_
  refine pr_sipush hA (2000) dX7_stateAfter_16 (by decide) ?_
  exact pr_thS hA hXt rfl (c_rr_th (pr_hl hA) hf) s_X7_86 rfl (by decide) rfl dX7_stateAfter_19
theorem t_takeDown_0 {g : pr_C} {l : Launch} (hl : l.stackTraces = false) {T : pr_T} {I : pr_I} {L : pr_L} {w : Nat} {σ : pr_I} (hw : pr_W T w) {x v sn f y : Nat} (hx : pr_X7 T x w v sn f y) {p1 : Int32}  (hf : p1 < 0 ∨ ¬ p1 < (σ 1 8)) : pr_M g l 9 1 6 mX7_takeDown [.ref x, .int p1] T (ws_put I w σ) L pr_nv (pr_Th eIOO T (ws_put I w σ) L) := by
  refine pr_ofG (by decide) rfl hl (Nat.le_of_ble_eq_true rfl) (fun X hA hX hXn hXt => ?_)
  subst hX
  show pr_G g X mX7_takeDown.2.2.1 _ 0 0 0 [.ref x, .int p1] [] T (ws_put I w σ) L
  refine pr_iload_n hA dX7_takeDown_0 rfl ?_
  refine pr_aload_n hA dX7_takeDown_1 rfl ?_
  refine pr_getR hA f_X7_10 rfl (tx_k hx) (tx_0 hx) dX7_takeDown_2 ?_
  refine pr_getR hA f_X7_55 rfl (wk_0 hw) (wf_0_0 hw) dX7_takeDown_5 ?_
  refine pr_getE (v := σ 1 8) hA f_X7_59 rfl (wk_1 hw) (ws_val (by decide)) dX7_takeDown_8 ?_
  exact pr_thS hA hXt rfl (c_ri_th (pr_hl hA) hf) s_X7_74 rfl (by decide) rfl dX7_takeDown_11
theorem t_ticketOn_0 {g : pr_C} {l : Launch} (hl : l.stackTraces = false) {T : pr_T} {I : pr_I} {L : pr_L} {w : Nat} {σ : pr_I} (hw : pr_W T w) {x v sn f y : Nat} (hx : pr_X7 T x w v sn f y) {p1 p2 : Int32}  (hf : p1 < 0 ∨ ¬ p1 < (σ 1 8)) : pr_M g l 9 1 6 mX7_ticketOn [.ref x, .int p1, .int p2] T (ws_put I w σ) L pr_nv (pr_Th eIOO T (ws_put I w σ) L) := by
  refine pr_ofG (by decide) rfl hl (Nat.le_of_ble_eq_true rfl) (fun X hA hX hXn hXt => ?_)
  subst hX
  show pr_G g X mX7_ticketOn.2.2.1 _ 0 0 0 [.ref x, .int p1, .int p2] [] T (ws_put I w σ) L
  refine pr_iload_n hA dX7_ticketOn_0 rfl ?_
  refine pr_aload_n hA dX7_ticketOn_1 rfl ?_
  refine pr_getR hA f_X7_10 rfl (tx_k hx) (tx_0 hx) dX7_ticketOn_2 ?_
  refine pr_getR hA f_X7_55 rfl (wk_0 hw) (wf_0_0 hw) dX7_ticketOn_5 ?_
  refine pr_getE (v := σ 1 8) hA f_X7_59 rfl (wk_1 hw) (ws_val (by decide)) dX7_ticketOn_8 ?_
  exact pr_thS hA hXt rfl (c_ri_th (pr_hl hA) hf) s_X7_74 rfl (by decide) rfl dX7_ticketOn_11
theorem t_ticketValue_0 {g : pr_C} {l : Launch} (hl : l.stackTraces = false) {T : pr_T} {I : pr_I} {L : pr_L} {w : Nat} {σ : pr_I} (hw : pr_W T w) {x v sn f y : Nat} (hx : pr_X7 T x w v sn f y) {p1 p2 : Int32}  (hf : p1 < 0 ∨ ¬ p1 < (σ 9 8)) : pr_M g l 9 1 6 mX7_ticketValue [.ref x, .int p1, .int p2] T (ws_put I w σ) L pr_nv (pr_Th eIOO T (ws_put I w σ) L) := by
  refine pr_ofG (by decide) rfl hl (Nat.le_of_ble_eq_true rfl) (fun X hA hX hXn hXt => ?_)
  subst hX
  show pr_G g X mX7_ticketValue.2.2.1 _ 0 0 0 [.ref x, .int p1, .int p2] [] T (ws_put I w σ) L
  refine pr_iload_n hA dX7_ticketValue_0 rfl ?_
  refine pr_aload_n hA dX7_ticketValue_1 rfl ?_
  refine pr_getR hA f_X7_10 rfl (tx_k hx) (tx_0 hx) dX7_ticketValue_2 ?_
  refine pr_getR hA f_X7_147 rfl (wk_0 hw) (wf_0_1 hw) dX7_ticketValue_5 ?_
  refine pr_getE (v := σ 9 8) hA f_X7_178 rfl (wk_9 hw) (ws_val (by decide)) dX7_ticketValue_8 ?_
  exact pr_thS hA hXt rfl (c_ri_th (pr_hl hA) hf) s_X7_74 rfl (by decide) rfl dX7_ticketValue_11
theorem t_ticketValue_1 {g : pr_C} {l : Launch} (hl : l.stackTraces = false) {T : pr_T} {I : pr_I} {L : pr_L} {w : Nat} {σ : pr_I} (hw : pr_W T w) {x v sn f y : Nat} (hx : pr_X7 T x w v sn f y) {p1 p2 : Int32} (h0a : ¬ p1 < 0) (h0b : p1 < (σ 9 8)) (hf : p2 < (0 : Int32) ∨ ¬ p2 ≤ (7 : Int32)) : pr_M g l 9 1 6 mX7_ticketValue [.ref x, .int p1, .int p2] T (ws_put I w σ) L pr_nv (pr_Th eIAE T (ws_put I w σ) L) := by
  refine pr_ofG (by decide) rfl hl (Nat.le_of_ble_eq_true rfl) (fun X hA hX hXn hXt => ?_)
  subst hX
  show pr_G g X mX7_ticketValue.2.2.1 _ 0 0 0 [.ref x, .int p1, .int p2] [] T (ws_put I w σ) L
  refine pr_iload_n hA dX7_ticketValue_0 rfl ?_
  refine pr_aload_n hA dX7_ticketValue_1 rfl ?_
  refine pr_getR hA f_X7_10 rfl (tx_k hx) (tx_0 hx) dX7_ticketValue_2 ?_
  refine pr_getR hA f_X7_147 rfl (wk_0 hw) (wf_0_1 hw) dX7_ticketValue_5 ?_
  refine pr_getE (v := σ 9 8) hA f_X7_178 rfl (wk_9 hw) (ws_val (by decide)) dX7_ticketValue_8 ?_
  refine pr_callSv hA [.int p1, .int (σ 9 8)] (c_ri_ok2 (pr_hl hA) h0a h0b) s_X7_74 rfl (by decide) (Nat.zero_le _) (Nat.zero_le _) rfl (Nat.le_of_ble_eq_true rfl) dX7_ticketValue_11 ?_
  refine pr_iload_n hA dX7_ticketValue_14 rfl ?_
  refine pr_iconst hA (0) dX7_ticketValue_15 (by decide) ?_
  refine pr_bipush hA (7) dX7_ticketValue_16 (by decide) ?_
  exact pr_thS hA hXt rfl (c_rr_th (pr_hl hA) hf) s_X7_86 rfl (by decide) rfl dX7_ticketValue_18
theorem t_ticketsInState_0 {g : pr_C} {l : Launch} (hl : l.stackTraces = false) {T : pr_T} {I : pr_I} {L : pr_L} {w : Nat} {σ : pr_I} (hw : pr_W T w) {x v sn f y : Nat} (hx : pr_X7 T x w v sn f y) {p1 : Int32}  (hf : p1 < (0 : Int32) ∨ ¬ p1 ≤ (3 : Int32)) : pr_M g l 9 1 6 mX7_ticketsInState [.ref x, .int p1] T (ws_put I w σ) L pr_nv (pr_Th eIAE T (ws_put I w σ) L) := by
  refine pr_ofG (by decide) rfl hl (Nat.le_of_ble_eq_true rfl) (fun X hA hX hXn hXt => ?_)
  subst hX
  show pr_G g X mX7_ticketsInState.2.2.1 _ 0 0 0 [.ref x, .int p1, .null, .null] [] T (ws_put I w σ) L
  refine pr_iload_n hA dX7_ticketsInState_0 rfl ?_
  refine pr_iconst hA (0) dX7_ticketsInState_1 (by decide) ?_
  refine pr_iconst hA (3) dX7_ticketsInState_2 (by decide) ?_
  exact pr_thS hA hXt rfl (c_rr_th (pr_hl hA) hf) s_X7_86 rfl (by decide) rfl dX7_ticketsInState_3
theorem t_ticketsOf_0 {g : pr_C} {l : Launch} (hl : l.stackTraces = false) {T : pr_T} {I : pr_I} {L : pr_L} {w : Nat} {σ : pr_I} (hw : pr_W T w) {x v sn f y : Nat} (hx : pr_X7 T x w v sn f y) {p1 p2 : Int32}  (hf : p1 < 0 ∨ ¬ p1 < (σ 18 17)) : pr_M g l 9 1 6 mX7_ticketsOf [.ref x, .int p1, .int p2] T (ws_put I w σ) L pr_nv (pr_Th eIOO T (ws_put I w σ) L) := by
  refine pr_ofG (by decide) rfl hl (Nat.le_of_ble_eq_true rfl) (fun X hA hX hXn hXt => ?_)
  subst hX
  show pr_G g X mX7_ticketsOf.2.2.1 _ 0 0 0 [.ref x, .int p1, .int p2] [] T (ws_put I w σ) L
  refine pr_iload_n hA dX7_ticketsOf_0 rfl ?_
  refine pr_aload_n hA dX7_ticketsOf_1 rfl ?_
  refine pr_getR hA f_X7_10 rfl (tx_k hx) (tx_0 hx) dX7_ticketsOf_2 ?_
  refine pr_getR hA f_X7_131 rfl (wk_0 hw) (wf_0_2 hw) dX7_ticketsOf_5 ?_
  refine pr_getE (v := σ 18 17) hA f_X7_135 rfl (wk_18 hw) (ws_val (by decide)) dX7_ticketsOf_8 ?_
  exact pr_thS hA hXt rfl (c_ri_th (pr_hl hA) hf) s_X7_74 rfl (by decide) rfl dX7_ticketsOf_11
theorem t_ticketsOf_1 {g : pr_C} {l : Launch} (hl : l.stackTraces = false) {T : pr_T} {I : pr_I} {L : pr_L} {w : Nat} {σ : pr_I} (hw : pr_W T w) {x v sn f y : Nat} (hx : pr_X7 T x w v sn f y) {p1 p2 : Int32} (h0a : ¬ p1 < 0) (h0b : p1 < (σ 18 17)) (hf : p2 < (0 : Int32) ∨ ¬ p2 ≤ (3 : Int32)) : pr_M g l 9 1 6 mX7_ticketsOf [.ref x, .int p1, .int p2] T (ws_put I w σ) L pr_nv (pr_Th eIAE T (ws_put I w σ) L) := by
  refine pr_ofG (by decide) rfl hl (Nat.le_of_ble_eq_true rfl) (fun X hA hX hXn hXt => ?_)
  subst hX
  show pr_G g X mX7_ticketsOf.2.2.1 _ 0 0 0 [.ref x, .int p1, .int p2] [] T (ws_put I w σ) L
  refine pr_iload_n hA dX7_ticketsOf_0 rfl ?_
  refine pr_aload_n hA dX7_ticketsOf_1 rfl ?_
  refine pr_getR hA f_X7_10 rfl (tx_k hx) (tx_0 hx) dX7_ticketsOf_2 ?_
  refine pr_getR hA f_X7_131 rfl (wk_0 hw) (wf_0_2 hw) dX7_ticketsOf_5 ?_
  refine pr_getE (v := σ 18 17) hA f_X7_135 rfl (wk_18 hw) (ws_val (by decide)) dX7_ticketsOf_8 ?_
  refine pr_callSv hA [.int p1, .int (σ 18 17)] (c_ri_ok2 (pr_hl hA) h0a h0b) s_X7_74 rfl (by decide) (Nat.zero_le _) (Nat.zero_le _) rfl (Nat.le_of_ble_eq_true rfl) dX7_ticketsOf_11 ?_
  refine pr_iload_n hA dX7_ticketsOf_14 rfl ?_
  refine pr_iconst hA (0) dX7_ticketsOf_15 (by decide) ?_
  refine pr_iconst hA (3) dX7_ticketsOf_16 (by decide) ?_
  exact pr_thS hA hXt rfl (c_rr_th (pr_hl hA) hf) s_X7_86 rfl (by decide) rfl dX7_ticketsOf_17
theorem t_ticksForNew_0i {g : pr_C} {l : Launch} (hl : l.stackTraces = false) {T : pr_T} {I : pr_I} {L : pr_L} {w : Nat} {σ : pr_I} (hw : pr_W T w) {x v sn f y : Nat} (hx : pr_X7 T x w v sn f y) {p1 p2 p3 : Int32}  (hf : (p1 < 0 ∨ ¬ p1 < σ 0 6) ∨ (p2 < 0 ∨ ¬ p2 < σ 0 6)) : pr_M g l 9 1 6 mX7_ticksForNew [.ref x, .int p1, .int p2, .int p3] T (ws_put I w σ) L pr_nv (pr_Th eIOO T (ws_put I w σ) L) := by
  refine pr_ofG (by decide) rfl hl (Nat.le_of_ble_eq_true rfl) (fun X hA hX hXn hXt => ?_)
  subst hX
  show pr_G g X mX7_ticksForNew.2.2.1 _ 0 0 0 [.ref x, .int p1, .int p2, .int p3, .null] [] T (ws_put I w σ) L
  refine pr_aload_n hA dX7_ticksForNew_0 rfl ?_
  refine pr_iload_n hA dX7_ticksForNew_1 rfl ?_
  refine pr_iload_n hA dX7_ticksForNew_2 rfl ?_
  exact pr_thV hA hXt rfl (c_rp_ti (pr_hl hA) hw hx hf) v_X7_124 (tx_k hx) (by decide) rfl rfl rfl (by decide) rfl dX7_ticksForNew_3
theorem t_ticksForNew_0p {g : pr_C} {l : Launch} (hl : l.stackTraces = false) {T : pr_T} {I : pr_I} {L : pr_L} {w : Nat} {σ : pr_I} (hw : pr_W T w) {x v sn f y : Nat} (hx : pr_X7 T x w v sn f y) {p1 p2 p3 : Int32}  (h1 : ¬ p1 < 0) (h2 : p1 < σ 0 6) (h3 : ¬ p2 < 0) (h4 : p2 < σ 0 6) (h5 : p1 = p2) : pr_M g l 9 1 6 mX7_ticksForNew [.ref x, .int p1, .int p2, .int p3] T (ws_put I w σ) L pr_nv (pr_Th eIAE T (ws_put I w σ) L) := by
  refine pr_ofG (by decide) rfl hl (Nat.le_of_ble_eq_true rfl) (fun X hA hX hXn hXt => ?_)
  subst hX
  show pr_G g X mX7_ticksForNew.2.2.1 _ 0 0 0 [.ref x, .int p1, .int p2, .int p3, .null] [] T (ws_put I w σ) L
  refine pr_aload_n hA dX7_ticksForNew_0 rfl ?_
  refine pr_iload_n hA dX7_ticksForNew_1 rfl ?_
  refine pr_iload_n hA dX7_ticksForNew_2 rfl ?_
  exact pr_thV hA hXt rfl (c_rp_tp (pr_hl hA) hw hx h1 h2 h3 h4 h5) v_X7_124 (tx_k hx) (by decide) rfl rfl rfl (by decide) rfl dX7_ticksForNew_3
theorem t_ticksForNew_1 {g : pr_C} {l : Launch} (hl : l.stackTraces = false) {T : pr_T} {I : pr_I} {L : pr_L} {w : Nat} {σ : pr_I} (hw : pr_W T w) {x v sn f y : Nat} (hx : pr_X7 T x w v sn f y) {p1 p2 p3 : Int32} (h0a : ¬ p1 < 0) (h0b : p1 < σ 0 6) (h0c : ¬ p2 < 0) (h0d : p2 < σ 0 6) (h0e : p1 ≠ p2) (hf : p3 < (1 : Int32) ∨ ¬ p3 ≤ (1000 : Int32)) : pr_M g l 9 1 6 mX7_ticksForNew [.ref x, .int p1, .int p2, .int p3] T (ws_put I w σ) L pr_nv (pr_Th eIAE T (ws_put I w σ) L) := by
  refine pr_ofG (by decide) rfl hl (Nat.le_of_ble_eq_true rfl) (fun X hA hX hXn hXt => ?_)
  subst hX
  show pr_G g X mX7_ticksForNew.2.2.1 _ 0 0 0 [.ref x, .int p1, .int p2, .int p3, .null] [] T (ws_put I w σ) L
  refine pr_aload_n hA dX7_ticksForNew_0 rfl ?_
  refine pr_iload_n hA dX7_ticksForNew_1 rfl ?_
  refine pr_iload_n hA dX7_ticksForNew_2 rfl ?_
  refine pr_callVv hA [.int p1, .int p2] (c_rp_ok2 (pr_hl hA) hw hx h0a h0b h0c h0d h0e) v_X7_124 (tx_k hx) (by decide) rfl rfl rfl (by decide) (Nat.zero_le _) (Nat.zero_le _) rfl (Nat.le_of_ble_eq_true rfl) dX7_ticksForNew_3 ?_
  refine pr_iload_n hA dX7_ticksForNew_6 rfl ?_
  refine pr_iconst hA (1) dX7_ticksForNew_7 (by decide) ?_
  refine pr_sipush hA (1000) dX7_ticksForNew_8 (by decide) ?_
  exact pr_thS hA hXt rfl (c_rr_th (pr_hl hA) hf) s_X7_86 rfl (by decide) rfl dX7_ticksForNew_11
theorem t_ticksUntilActive_0 {g : pr_C} {l : Launch} (hl : l.stackTraces = false) {T : pr_T} {I : pr_I} {L : pr_L} {w : Nat} {σ : pr_I} (hw : pr_W T w) {x v sn f y : Nat} (hx : pr_X7 T x w v sn f y) {p1 : Int32}  (hf : p1 < 0 ∨ ¬ p1 < (σ 18 17)) : pr_M g l 9 1 6 mX7_ticksUntilActive [.ref x, .int p1] T (ws_put I w σ) L pr_nv (pr_Th eIOO T (ws_put I w σ) L) := by
  refine pr_ofG (by decide) rfl hl (Nat.le_of_ble_eq_true rfl) (fun X hA hX hXn hXt => ?_)
  subst hX
  show pr_G g X mX7_ticksUntilActive.2.2.1 _ 0 0 0 [.ref x, .int p1] [] T (ws_put I w σ) L
  refine pr_iload_n hA dX7_ticksUntilActive_0 rfl ?_
  refine pr_aload_n hA dX7_ticksUntilActive_1 rfl ?_
  refine pr_getR hA f_X7_10 rfl (tx_k hx) (tx_0 hx) dX7_ticksUntilActive_2 ?_
  refine pr_getR hA f_X7_131 rfl (wk_0 hw) (wf_0_2 hw) dX7_ticksUntilActive_5 ?_
  refine pr_getE (v := σ 18 17) hA f_X7_135 rfl (wk_18 hw) (ws_val (by decide)) dX7_ticksUntilActive_8 ?_
  exact pr_thS hA hXt rfl (c_ri_th (pr_hl hA) hf) s_X7_74 rfl (by decide) rfl dX7_ticksUntilActive_11
theorem t_ticksUntilAvailable_0 {g : pr_C} {l : Launch} (hl : l.stackTraces = false) {T : pr_T} {I : pr_I} {L : pr_L} {w : Nat} {σ : pr_I} (hw : pr_W T w) {x v sn f y : Nat} (hx : pr_X7 T x w v sn f y) {p1 p2 : Int32}  (hf : p1 < 0 ∨ ¬ p1 < (σ 1 8)) : pr_M g l 9 1 6 mX7_ticksUntilAvailable [.ref x, .int p1, .int p2] T (ws_put I w σ) L pr_nv (pr_Th eIOO T (ws_put I w σ) L) := by
  refine pr_ofG (by decide) rfl hl (Nat.le_of_ble_eq_true rfl) (fun X hA hX hXn hXt => ?_)
  subst hX
  show pr_G g X mX7_ticksUntilAvailable.2.2.1 _ 0 0 0 [.ref x, .int p1, .int p2] [] T (ws_put I w σ) L
  refine pr_iload_n hA dX7_ticksUntilAvailable_0 rfl ?_
  refine pr_aload_n hA dX7_ticksUntilAvailable_1 rfl ?_
  refine pr_getR hA f_X7_10 rfl (tx_k hx) (tx_0 hx) dX7_ticksUntilAvailable_2 ?_
  refine pr_getR hA f_X7_55 rfl (wk_0 hw) (wf_0_0 hw) dX7_ticksUntilAvailable_5 ?_
  refine pr_getE (v := σ 1 8) hA f_X7_59 rfl (wk_1 hw) (ws_val (by decide)) dX7_ticksUntilAvailable_8 ?_
  exact pr_thS hA hXt rfl (c_ri_th (pr_hl hA) hf) s_X7_74 rfl (by decide) rfl dX7_ticksUntilAvailable_11
theorem t_ticksUntilAvailable_1 {g : pr_C} {l : Launch} (hl : l.stackTraces = false) {T : pr_T} {I : pr_I} {L : pr_L} {w : Nat} {σ : pr_I} (hw : pr_W T w) {x v sn f y : Nat} (hx : pr_X7 T x w v sn f y) {p1 p2 : Int32} (h0a : ¬ p1 < 0) (h0b : p1 < (σ 1 8)) (hf : p2 < (0 : Int32) ∨ ¬ p2 ≤ (1000 : Int32)) : pr_M g l 9 1 6 mX7_ticksUntilAvailable [.ref x, .int p1, .int p2] T (ws_put I w σ) L pr_nv (pr_Th eIAE T (ws_put I w σ) L) := by
  refine pr_ofG (by decide) rfl hl (Nat.le_of_ble_eq_true rfl) (fun X hA hX hXn hXt => ?_)
  subst hX
  show pr_G g X mX7_ticksUntilAvailable.2.2.1 _ 0 0 0 [.ref x, .int p1, .int p2] [] T (ws_put I w σ) L
  refine pr_iload_n hA dX7_ticksUntilAvailable_0 rfl ?_
  refine pr_aload_n hA dX7_ticksUntilAvailable_1 rfl ?_
  refine pr_getR hA f_X7_10 rfl (tx_k hx) (tx_0 hx) dX7_ticksUntilAvailable_2 ?_
  refine pr_getR hA f_X7_55 rfl (wk_0 hw) (wf_0_0 hw) dX7_ticksUntilAvailable_5 ?_
  refine pr_getE (v := σ 1 8) hA f_X7_59 rfl (wk_1 hw) (ws_val (by decide)) dX7_ticksUntilAvailable_8 ?_
  refine pr_callSv hA [.int p1, .int (σ 1 8)] (c_ri_ok2 (pr_hl hA) h0a h0b) s_X7_74 rfl (by decide) (Nat.zero_le _) (Nat.zero_le _) rfl (Nat.le_of_ble_eq_true rfl) dX7_ticksUntilAvailable_11 ?_
  refine pr_iload_n hA dX7_ticksUntilAvailable_14 rfl ?_
  refine pr_iconst hA (0) dX7_ticksUntilAvailable_15 (by decide) ?_
  refine pr_sipush hA (1000) dX7_ticksUntilAvailable_16 (by decide) ?_
  exact pr_thS hA hXt rfl (c_rr_th (pr_hl hA) hf) s_X7_86 rfl (by decide) rfl dX7_ticksUntilAvailable_19
theorem t_widest_0i {g : pr_C} {l : Launch} (hl : l.stackTraces = false) {T : pr_T} {I : pr_I} {L : pr_L} {w : Nat} {σ : pr_I} (hw : pr_W T w) {x v sn f y : Nat} (hx : pr_X7 T x w v sn f y) {p1 p2 : Int32}  (hf : (p1 < 0 ∨ ¬ p1 < σ 0 6) ∨ (p2 < 0 ∨ ¬ p2 < σ 0 6)) : pr_M g l 9 1 6 mX7_widest [.ref x, .int p1, .int p2] T (ws_put I w σ) L pr_nv (pr_Th eIOO T (ws_put I w σ) L) := by
  refine pr_ofG (by decide) rfl hl (Nat.le_of_ble_eq_true rfl) (fun X hA hX hXn hXt => ?_)
  subst hX
  show pr_G g X mX7_widest.2.2.1 _ 0 0 0 [.ref x, .int p1, .int p2] [] T (ws_put I w σ) L
  refine pr_aload_n hA dX7_widest_0 rfl ?_
  refine pr_iload_n hA dX7_widest_1 rfl ?_
  refine pr_iload_n hA dX7_widest_2 rfl ?_
  exact pr_thV hA hXt rfl (c_rp_ti (pr_hl hA) hw hx hf) v_X7_124 (tx_k hx) (by decide) rfl rfl rfl (by decide) rfl dX7_widest_3
theorem t_widest_0p {g : pr_C} {l : Launch} (hl : l.stackTraces = false) {T : pr_T} {I : pr_I} {L : pr_L} {w : Nat} {σ : pr_I} (hw : pr_W T w) {x v sn f y : Nat} (hx : pr_X7 T x w v sn f y) {p1 p2 : Int32}  (h1 : ¬ p1 < 0) (h2 : p1 < σ 0 6) (h3 : ¬ p2 < 0) (h4 : p2 < σ 0 6) (h5 : p1 = p2) : pr_M g l 9 1 6 mX7_widest [.ref x, .int p1, .int p2] T (ws_put I w σ) L pr_nv (pr_Th eIAE T (ws_put I w σ) L) := by
  refine pr_ofG (by decide) rfl hl (Nat.le_of_ble_eq_true rfl) (fun X hA hX hXn hXt => ?_)
  subst hX
  show pr_G g X mX7_widest.2.2.1 _ 0 0 0 [.ref x, .int p1, .int p2] [] T (ws_put I w σ) L
  refine pr_aload_n hA dX7_widest_0 rfl ?_
  refine pr_iload_n hA dX7_widest_1 rfl ?_
  refine pr_iload_n hA dX7_widest_2 rfl ?_
  exact pr_thV hA hXt rfl (c_rp_tp (pr_hl hA) hw hx h1 h2 h3 h4 h5) v_X7_124 (tx_k hx) (by decide) rfl rfl rfl (by decide) rfl dX7_widest_3
