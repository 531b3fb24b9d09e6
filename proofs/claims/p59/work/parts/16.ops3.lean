def w_issue_r (σ : pr_I) (n : Nat) (r : Nat) (x : Int32) : Int32 := (nI n)
def w_issue (σ : pr_I) (n : Nat) (r : Nat) (x : Int32) : pr_I := (pr_up (pr_up (pr_up (pr_up (pr_up (pr_up (pr_up (pr_up (pr_up (pr_up (pr_up σ 10 n (nI r)) 11 n x) 12 n (σ 21 r)) 13 n (σ 0 7)) 14 n ((σ 0 7) + (σ 119 0))) 15 n (0 : Int32)) 16 n ((σ 5 x.toNatClampNeg) * (σ 21 r))) 17 n (0 : Int32)) 9 8 (nI (n + 1))) 7 x.toNatClampNeg ((σ 7 x.toNatClampNeg) + (σ 21 r))) 26 r ((σ 26 r) + ((σ 5 x.toNatClampNeg) * (σ 21 r))))
set_option maxRecDepth 100000 in
set_option maxHeartbeats 4000000 in
theorem c_w_issue {g : pr_C} {l : Launch} (hl : l.stackTraces = false) {T : pr_T} {I : pr_I} {L : pr_L} {w : Nat} {σ : pr_I} {n : Nat} {r : Nat} {x : Int32} (hw : pr_W T w) (hn : σ 9 8 = nI n) (hn500 : n < 500) (hr : r < 40) (hx : vp_in x 24) : pr_M g l 1 0 0 mX6_issueTicket [.ref w, .int (nI r), .int x] T (ws_put I w σ) L (pr_R (some (.int (w_issue_r σ n r x))) T (ws_put I w (w_issue σ n r x)) L) pr_no := by
  refine pr_ofG (by decide) rfl hl (Nat.le_of_ble_eq_true rfl) (fun X hA hX hXn hXt => ?_)
  subst hX
  show pr_G g X mX6_issueTicket.2.2.1 _ 0 0 0 [.ref w, .int (nI r), .int x, .null, .null] [] T (ws_put I w σ) L
  refine pr_aload_n hA dX6_issueTicket_0 rfl ?_
  refine pr_getR hA f_X6_21 rfl (wk_0 hw) (wf_0_1 hw) dX6_issueTicket_1 ?_
  refine pr_getE (v := (nI n)) hA f_X6_69 rfl (wk_9 hw) ((ws_val (by decide)).trans hn) dX6_issueTicket_4 ?_
  refine pr_istore_n (ls' := [_, _, _, _, _]) hA dX6_issueTicket_7 (by decide) rfl ?_
  refine pr_aload_n hA dX6_issueTicket_8 rfl ?_
  refine pr_getR hA f_X6_28 rfl (wk_0 hw) (wf_0_2 hw) dX6_issueTicket_9 ?_
  refine pr_getR hA f_X6_146 rfl (wk_18 hw) (wf_18_2 hw) dX6_issueTicket_12 ?_
  refine pr_iload_n hA dX6_issueTicket_15 rfl ?_
  refine pr_ialdN (v := (σ 21 r)) hA (wk_21 hw) (by omega) (by decide) (ws_val (by decide)) dX6_issueTicket_16 ?_
  refine pr_istore (ls' := [_, _, _, _, _]) hA dX6_issueTicket_17 (by decide) rfl ?_
  refine pr_aload_n hA dX6_issueTicket_19 rfl ?_
  refine pr_getR hA f_X6_21 rfl (wk_0 hw) (wf_0_1 hw) dX6_issueTicket_20 ?_
  refine pr_getR hA f_X6_163 rfl (wk_9 hw) (wf_9_0 hw) dX6_issueTicket_23 ?_
  refine pr_iload_n hA dX6_issueTicket_26 rfl ?_
  refine pr_iload_n hA dX6_issueTicket_27 rfl ?_
  refine pr_iastN (I' := (ws_put I w (pr_up σ 10 n (nI r)))) hA (wk_10 hw) (by omega) (by decide) (ws_up (by decide)) dX6_issueTicket_28 ?_
  refine pr_aload_n hA dX6_issueTicket_29 rfl ?_
  refine pr_getR hA f_X6_21 rfl (wk_0 hw) (wf_0_1 hw) dX6_issueTicket_30 ?_
  refine pr_getR hA f_X6_166 rfl (wk_9 hw) (wf_9_1 hw) dX6_issueTicket_33 ?_
  refine pr_iload_n hA dX6_issueTicket_36 rfl ?_
  refine pr_iload_n hA dX6_issueTicket_37 rfl ?_
  refine pr_iastN (I' := (ws_put I w (pr_up (pr_up σ 10 n (nI r)) 11 n x))) hA (wk_11 hw) (by omega) (by decide) (ws_up (by decide)) dX6_issueTicket_38 ?_
  refine pr_aload_n hA dX6_issueTicket_39 rfl ?_
  refine pr_getR hA f_X6_21 rfl (wk_0 hw) (wf_0_1 hw) dX6_issueTicket_40 ?_
  refine pr_getR hA f_X6_167 rfl (wk_9 hw) (wf_9_2 hw) dX6_issueTicket_43 ?_
  refine pr_iload_n hA dX6_issueTicket_46 rfl ?_
  refine pr_iload hA dX6_issueTicket_47 rfl ?_
  refine pr_iastN (I' := (ws_put I w (pr_up (pr_up (pr_up σ 10 n (nI r)) 11 n x) 12 n (σ 21 r)))) hA (wk_12 hw) (by omega) (by decide) (ws_up (by decide)) dX6_issueTicket_49 ?_
  refine pr_aload_n hA dX6_issueTicket_50 rfl ?_
  refine pr_getR hA f_X6_21 rfl (wk_0 hw) (wf_0_1 hw) dX6_issueTicket_51 ?_
  refine pr_getR hA f_X6_168 rfl (wk_9 hw) (wf_9_3 hw) dX6_issueTicket_54 ?_
  refine pr_iload_n hA dX6_issueTicket_57 rfl ?_
  refine pr_aload_n hA dX6_issueTicket_58 rfl ?_
  refine pr_getE (v := (σ 0 7)) hA f_X6_51 rfl (wk_0 hw) (ws_val0.trans ((pr_upv (by decide)).trans ((pr_upv (by decide)).trans (pr_upv (by decide))))) dX6_issueTicket_59 ?_
  refine pr_iastN (I' := (ws_put I w (pr_up (pr_up (pr_up (pr_up σ 10 n (nI r)) 11 n x) 12 n (σ 21 r)) 13 n (σ 0 7)))) hA (wk_13 hw) (by omega) (by decide) (ws_up (by decide)) dX6_issueTicket_62 ?_
  refine pr_aload_n hA dX6_issueTicket_63 rfl ?_
  refine pr_getR hA f_X6_21 rfl (wk_0 hw) (wf_0_1 hw) dX6_issueTicket_64 ?_
  refine pr_getR hA f_X6_171 rfl (wk_9 hw) (wf_9_4 hw) dX6_issueTicket_67 ?_
  refine pr_iload_n hA dX6_issueTicket_70 rfl ?_
  refine pr_aload_n hA dX6_issueTicket_71 rfl ?_
  refine pr_getE (v := (σ 0 7)) hA f_X6_51 rfl (wk_0 hw) (ws_val0.trans ((pr_upv (by decide)).trans ((pr_upv (by decide)).trans ((pr_upv (by decide)).trans (pr_upv (by decide)))))) dX6_issueTicket_72 ?_
  refine pr_aload_n hA dX6_issueTicket_75 rfl ?_
  refine pr_getR hA f_X6_39 rfl (wk_0 hw) (wf_0_4 hw) dX6_issueTicket_76 ?_
  refine pr_iconst hA (nI 0) dX6_issueTicket_79 (by decide) ?_
  refine pr_ialdN (v := (σ 119 0)) hA (wk_119 hw) (by omega) (by decide) ((ws_val (by decide)).trans ((pr_upv (by decide)).trans ((pr_upv (by decide)).trans ((pr_upv (by decide)).trans (pr_upv (by decide)))))) dX6_issueTicket_80 ?_
  refine pr_iadd hA dX6_issueTicket_81 ?_
  refine pr_iastN (I' := (ws_put I w (pr_up (pr_up (pr_up (pr_up (pr_up σ 10 n (nI r)) 11 n x) 12 n (σ 21 r)) 13 n (σ 0 7)) 14 n ((σ 0 7) + (σ 119 0))))) hA (wk_14 hw) (by omega) (by decide) (ws_up (by decide)) dX6_issueTicket_82 ?_
  refine pr_aload_n hA dX6_issueTicket_83 rfl ?_
  refine pr_getR hA f_X6_21 rfl (wk_0 hw) (wf_0_1 hw) dX6_issueTicket_84 ?_
  refine pr_getR hA f_X6_174 rfl (wk_9 hw) (wf_9_5 hw) dX6_issueTicket_87 ?_
  refine pr_iload_n hA dX6_issueTicket_90 rfl ?_
  refine pr_iconst hA (0) dX6_issueTicket_91 (by decide) ?_
  refine pr_iastN (I' := (ws_put I w (pr_up (pr_up (pr_up (pr_up (pr_up (pr_up σ 10 n (nI r)) 11 n x) 12 n (σ 21 r)) 13 n (σ 0 7)) 14 n ((σ 0 7) + (σ 119 0))) 15 n (0 : Int32)))) hA (wk_15 hw) (by omega) (by decide) (ws_up (by decide)) dX6_issueTicket_92 ?_
  refine pr_aload_n hA dX6_issueTicket_93 rfl ?_
  refine pr_getR hA f_X6_21 rfl (wk_0 hw) (wf_0_1 hw) dX6_issueTicket_94 ?_
  refine pr_getR hA f_X6_175 rfl (wk_9 hw) (wf_9_6 hw) dX6_issueTicket_97 ?_
  refine pr_iload_n hA dX6_issueTicket_100 rfl ?_
  refine pr_aload_n hA dX6_issueTicket_101 rfl ?_
  refine pr_getR hA f_X6_12 rfl (wk_0 hw) (wf_0_0 hw) dX6_issueTicket_102 ?_
  refine pr_getR hA f_X6_178 rfl (wk_1 hw) (wf_1_3 hw) dX6_issueTicket_105 ?_
  refine pr_iload_n hA dX6_issueTicket_108 rfl ?_
  refine pr_ialdE (v := (σ 5 x.toNatClampNeg)) hA (wk_5 hw) (by assumption) ((ws_val (by decide)).trans ((pr_upv (by decide)).trans ((pr_upv (by decide)).trans ((pr_upv (by decide)).trans ((pr_upv (by decide)).trans ((pr_upv (by decide)).trans (pr_upv (by decide)))))))) dX6_issueTicket_109 ?_
  refine pr_iload hA dX6_issueTicket_110 rfl ?_
  refine pr_imul hA dX6_issueTicket_112 ?_
  refine pr_iastN (I' := (ws_put I w (pr_up (pr_up (pr_up (pr_up (pr_up (pr_up (pr_up σ 10 n (nI r)) 11 n x) 12 n (σ 21 r)) 13 n (σ 0 7)) 14 n ((σ 0 7) + (σ 119 0))) 15 n (0 : Int32)) 16 n ((σ 5 x.toNatClampNeg) * (σ 21 r))))) hA (wk_16 hw) (by omega) (by decide) (ws_up (by decide)) dX6_issueTicket_113 ?_
  refine pr_aload_n hA dX6_issueTicket_114 rfl ?_
  refine pr_getR hA f_X6_21 rfl (wk_0 hw) (wf_0_1 hw) dX6_issueTicket_115 ?_
  refine pr_getR hA f_X6_179 rfl (wk_9 hw) (wf_9_7 hw) dX6_issueTicket_118 ?_
  refine pr_iload_n hA dX6_issueTicket_121 rfl ?_
  refine pr_iconst hA (0) dX6_issueTicket_122 (by decide) ?_
  refine pr_iastN (I' := (ws_put I w (pr_up (pr_up (pr_up (pr_up (pr_up (pr_up (pr_up (pr_up σ 10 n (nI r)) 11 n x) 12 n (σ 21 r)) 13 n (σ 0 7)) 14 n ((σ 0 7) + (σ 119 0))) 15 n (0 : Int32)) 16 n ((σ 5 x.toNatClampNeg) * (σ 21 r))) 17 n (0 : Int32)))) hA (wk_17 hw) (by omega) (by decide) (ws_up (by decide)) dX6_issueTicket_123 ?_
  refine pr_aload_n hA dX6_issueTicket_124 rfl ?_
  refine pr_getR hA f_X6_21 rfl (wk_0 hw) (wf_0_1 hw) dX6_issueTicket_125 ?_
  refine pr_dup hA dX6_issueTicket_128 rfl ?_
  refine pr_getE (v := (nI n)) hA f_X6_69 rfl (wk_9 hw) ((ws_val (by decide)).trans ((pr_upv (by decide)).trans ((pr_upv (by decide)).trans ((pr_upv (by decide)).trans ((pr_upv (by decide)).trans ((pr_upv (by decide)).trans ((pr_upv (by decide)).trans ((pr_upv (by decide)).trans ((pr_upv (by decide)).trans hn))))))))) dX6_issueTicket_129 ?_
  refine pr_iconst hA (1) dX6_issueTicket_132 (by decide) ?_
  refine pr_iaddE (v := nI (n + 1)) hA (nI_1 _) dX6_issueTicket_133 ?_
  refine pr_putE (I' := (ws_put I w (pr_up (pr_up (pr_up (pr_up (pr_up (pr_up (pr_up (pr_up (pr_up σ 10 n (nI r)) 11 n x) 12 n (σ 21 r)) 13 n (σ 0 7)) 14 n ((σ 0 7) + (σ 119 0))) 15 n (0 : Int32)) 16 n ((σ 5 x.toNatClampNeg) * (σ 21 r))) 17 n (0 : Int32)) 9 8 (nI (n + 1))))) hA f_X6_69 rfl (wk_9 hw) (ws_up (by decide)) dX6_issueTicket_134 ?_
  refine pr_aload_n hA dX6_issueTicket_137 rfl ?_
  refine pr_getR hA f_X6_12 rfl (wk_0 hw) (wf_0_0 hw) dX6_issueTicket_138 ?_
  refine pr_getR hA f_X6_182 rfl (wk_1 hw) (wf_1_5 hw) dX6_issueTicket_141 ?_
  refine pr_iload_n hA dX6_issueTicket_144 rfl ?_
  refine pr_dup2 hA dX6_issueTicket_145 rfl rfl ?_
  refine pr_ialdE (v := (σ 7 x.toNatClampNeg)) hA (wk_7 hw) (by assumption) ((ws_val (by decide)).trans ((pr_upv (by decide)).trans ((pr_upv (by decide)).trans ((pr_upv (by decide)).trans ((pr_upv (by decide)).trans ((pr_upv (by decide)).trans ((pr_upv (by decide)).trans ((pr_upv (by decide)).trans ((pr_upv (by decide)).trans (pr_upv (by decide))))))))))) dX6_issueTicket_146 ?_
  refine pr_iload hA dX6_issueTicket_147 rfl ?_
  refine pr_iadd hA dX6_issueTicket_149 ?_
  refine pr_iastE (I' := (ws_put I w (pr_up (pr_up (pr_up (pr_up (pr_up (pr_up (pr_up (pr_up (pr_up (pr_up σ 10 n (nI r)) 11 n x) 12 n (σ 21 r)) 13 n (σ 0 7)) 14 n ((σ 0 7) + (σ 119 0))) 15 n (0 : Int32)) 16 n ((σ 5 x.toNatClampNeg) * (σ 21 r))) 17 n (0 : Int32)) 9 8 (nI (n + 1))) 7 x.toNatClampNeg ((σ 7 x.toNatClampNeg) + (σ 21 r))))) hA (wk_7 hw) (by assumption) (ws_up (by decide)) dX6_issueTicket_150 ?_
  refine pr_aload_n hA dX6_issueTicket_151 rfl ?_
  refine pr_getR hA f_X6_28 rfl (wk_0 hw) (wf_0_2 hw) dX6_issueTicket_152 ?_
  refine pr_getR hA f_X6_185 rfl (wk_18 hw) (wf_18_7 hw) dX6_issueTicket_155 ?_
  refine pr_iload_n hA dX6_issueTicket_158 rfl ?_
  refine pr_dup2 hA dX6_issueTicket_159 rfl rfl ?_
  refine pr_ialdN (v := (σ 26 r)) hA (wk_26 hw) (by omega) (by decide) ((ws_val (by decide)).trans ((pr_upv (by decide)).trans ((pr_upv (by decide)).trans ((pr_upv (by decide)).trans ((pr_upv (by decide)).trans ((pr_upv (by decide)).trans ((pr_upv (by decide)).trans ((pr_upv (by decide)).trans ((pr_upv (by decide)).trans ((pr_upv (by decide)).trans (pr_upv (by decide)))))))))))) dX6_issueTicket_160 ?_
  refine pr_aload_n hA dX6_issueTicket_161 rfl ?_
  refine pr_getR hA f_X6_21 rfl (wk_0 hw) (wf_0_1 hw) dX6_issueTicket_162 ?_
  refine pr_getR hA f_X6_175 rfl (wk_9 hw) (wf_9_6 hw) dX6_issueTicket_165 ?_
  refine pr_iload_n hA dX6_issueTicket_168 rfl ?_
  refine pr_ialdN (v := ((σ 5 x.toNatClampNeg) * (σ 21 r))) hA (wk_16 hw) (by omega) (by decide) ((ws_val (by decide)).trans ((pr_upv (by decide)).trans ((pr_upv (by decide)).trans ((pr_upv (by decide)).trans pr_upe)))) dX6_issueTicket_169 ?_
  refine pr_iadd hA dX6_issueTicket_170 ?_
  refine pr_iastN (I' := (ws_put I w (pr_up (pr_up (pr_up (pr_up (pr_up (pr_up (pr_up (pr_up (pr_up (pr_up (pr_up σ 10 n (nI r)) 11 n x) 12 n (σ 21 r)) 13 n (σ 0 7)) 14 n ((σ 0 7) + (σ 119 0))) 15 n (0 : Int32)) 16 n ((σ 5 x.toNatClampNeg) * (σ 21 r))) 17 n (0 : Int32)) 9 8 (nI (n + 1))) 7 x.toNatClampNeg ((σ 7 x.toNatClampNeg) + (σ 21 r))) 26 r ((σ 26 r) + ((σ 5 x.toNatClampNeg) * (σ 21 r)))))) hA (wk_26 hw) (by omega) (by decide) (ws_up (by decide)) dX6_issueTicket_171 ?_
  refine pr_iload_n hA dX6_issueTicket_172 rfl ?_
  exact pr_ireturn hA rfl rfl (Nat.zero_le _) (Nat.zero_le _) dX6_issueTicket_173 ⟨rfl, rfl, rfl, rfl⟩

theorem fr_w_issue {σ : pr_I} {n : Nat} {r : Nat} {x : Int32} {o : Nat} (hms : ∀ m ∈ ([7, 9, 10, 11, 12, 13, 14, 15, 16, 17, 26] : List Nat), o ≠ m) : w_issue σ n r x o = σ o := by
  unfold w_issue
  simp only [List.mem_cons, List.not_mem_nil, or_false, forall_eq_or_imp, forall_eq] at hms
  rw [pr_up_ne (by omega), pr_up_ne (by omega), pr_up_ne (by omega), pr_up_ne (by omega), pr_up_ne (by omega), pr_up_ne (by omega), pr_up_ne (by omega), pr_up_ne (by omega), pr_up_ne (by omega), pr_up_ne (by omega), pr_up_ne (by omega)]

def w_fwd_r (σ : pr_I) (n : Nat) (r : Nat) : Int32 := (if (σ 33 r) < (σ 32 r) then (if (if (lk_ux_r σ (σ (35 + r) ((σ 33 r).toNatClampNeg))) = 0 then (0 : Int32) else (if (lk_ax_r σ (σ (35 + r) ((σ 33 r).toNatClampNeg))) < (σ 21 r) then (0 : Int32) else (1 : Int32))) = 0 then (σ (35 + r) ((σ 33 r).toNatClampNeg)) else (if (if σ 9 8 < 500 then (0 : Int32) else 1) = 0 then ((-1) : Int32) else (σ (35 + r) ((σ 33 r).toNatClampNeg)))) else ((-1) : Int32))
def w_fwd (σ : pr_I) (n : Nat) (r : Nat) : pr_I := (if (σ 33 r) < (σ 32 r) then (if (if (lk_ux_r σ (σ (35 + r) ((σ 33 r).toNatClampNeg))) = 0 then (0 : Int32) else (if (lk_ax_r σ (σ (35 + r) ((σ 33 r).toNatClampNeg))) < (σ 21 r) then (0 : Int32) else (1 : Int32))) = 0 then σ else (if (if σ 9 8 < 500 then (0 : Int32) else 1) = 0 then (pr_up (pr_up (pr_up (w_issue σ n r (σ (35 + r) ((σ 33 r).toNatClampNeg))) (76 + r) ((σ 33 r).toNatClampNeg) (w_issue_r σ n r (σ (35 + r) ((σ 33 r).toNatClampNeg)))) 33 r ((σ 33 r) + (1 : Int32))) 25 r ((σ 0 7) + (σ 6 ((σ (35 + r) ((σ 33 r).toNatClampNeg)).toNatClampNeg)))) else σ)) else (pr_up σ 23 r (1 : Int32)))
set_option maxRecDepth 100000 in
set_option maxHeartbeats 4000000 in
theorem c_w_fwd {g : pr_C} {l : Launch} (hl : l.stackTraces = false) {T : pr_T} {I : pr_I} {L : pr_L} {w : Nat} {σ : pr_I} {n : Nat} {r : Nat} (hw : pr_W T w) (hn : σ 9 8 = nI n) (hn5 : n ≤ 500) (hr : r < 40) (hb : σ 33 r < σ 32 r → vp_in (σ 33 r) 11 ∧ vp_in (σ (35 + r) (σ 33 r).toNatClampNeg) 24) : pr_M g l 2 0 0 mX6_goForward [.ref w, .int (nI r)] T (ws_put I w σ) L (pr_R (some (.int (w_fwd_r σ n r))) T (ws_put I w (w_fwd σ n r)) L) pr_no := by
  refine pr_ofG (by decide) rfl hl (Nat.le_of_ble_eq_true rfl) (fun X hA hX hXn hXt => ?_)
  subst hX
  show pr_G g X mX6_goForward.2.2.1 _ 0 0 0 [.ref w, .int (nI r), .null, .null, .null] [] T (ws_put I w σ) L
  refine pr_aload_n hA dX6_goForward_0 rfl ?_
  refine pr_getR hA f_X6_28 rfl (wk_0 hw) (wf_0_2 hw) dX6_goForward_1 ?_
  refine pr_getR hA f_X6_136 rfl (wk_18 hw) (wf_18_14 hw) dX6_goForward_4 ?_
  refine pr_iload_n hA dX6_goForward_7 rfl ?_
  refine pr_ialdN (v := (σ 33 r)) hA (wk_33 hw) (by omega) (by decide) (ws_val (by decide)) dX6_goForward_8 ?_
  refine pr_istore_n (ls' := [_, _, _, _, _]) hA dX6_goForward_9 (by decide) rfl ?_
  refine pr_iload_n hA dX6_goForward_10 rfl ?_
  refine pr_aload_n hA dX6_goForward_11 rfl ?_
  refine pr_getR hA f_X6_28 rfl (wk_0 hw) (wf_0_2 hw) dX6_goForward_12 ?_
  refine pr_getR hA f_X6_133 rfl (wk_18 hw) (wf_18_13 hw) dX6_goForward_15 ?_
  refine pr_iload_n hA dX6_goForward_18 rfl ?_
  refine pr_ialdN (v := (σ 32 r)) hA (wk_32 hw) (by omega) (by decide) (ws_val (by decide)) dX6_goForward_19 ?_
  refine pr_icmp_lt hA 35 dX6_goForward_20 (by decide) (fun c_20 => ?_) (fun c_20 => ?_)
  · obtain ⟨b1, b2⟩ := hb c_20
    refine pr_aload_n hA dX6_goForward_35 rfl ?_
    refine pr_getR hA f_X6_28 rfl (wk_0 hw) (wf_0_2 hw) dX6_goForward_36 ?_
    refine pr_getR hA f_X6_129 rfl (wk_18 hw) (wf_18_15 hw) dX6_goForward_39 ?_
    refine pr_iload_n hA dX6_goForward_42 rfl ?_
    refine pr_aaldN (t := 24) (n := 40) hA (Or.inl rfl) (wk_34 hw) (by omega) (by decide) (wf_p hw (by omega)) dX6_goForward_43 ?_
    refine pr_iload_n hA dX6_goForward_44 rfl ?_
    refine pr_ialdE (v := (σ (35 + r) ((σ 33 r).toNatClampNeg))) hA (wk_p hw (by omega)) (by assumption) (ws_val (by omega)) dX6_goForward_45 ?_
    refine pr_istore_n (ls' := [_, _, _, _, _]) hA dX6_goForward_46 (by decide) rfl ?_
    refine pr_aload_n hA dX6_goForward_47 rfl ?_
    refine pr_getR hA f_X6_12 rfl (wk_0 hw) (wf_0_0 hw) dX6_goForward_48 ?_
    refine pr_iload_n hA dX6_goForward_51 rfl ?_
    refine pr_callVi hA [.int (σ (35 + r) ((σ 33 r).toNatClampNeg))] (c_lk_ux (pr_hl hA) hw) v_X6_139 (wk_1 hw) (by decide) rfl rfl rfl (by decide) (Nat.zero_le _) (Nat.zero_le _) rfl (Nat.le_of_ble_eq_true rfl) dX6_goForward_52 ?_
    refine pr_join (c := (lk_ux_r σ (σ (35 + r) ((σ 33 r).toNatClampNeg))) = 0) (J := 83) (st := []) (0 : Int32) (if (lk_ax_r σ (σ (35 + r) ((σ 33 r).toNatClampNeg))) < (σ 21 r) then (0 : Int32) else (1 : Int32)) inferInstance (fun kt kf => ?_) ?_
    · refine pr_if_eq hA 82 dX6_goForward_55 (by decide) (fun c_55 => ?_) (fun c_55 => ?_)
      · refine pr_iconst hA (0) dX6_goForward_82 (by decide) ?_
        exact kt c_55
      · refine pr_aload_n hA dX6_goForward_58 rfl ?_
        refine pr_getR hA f_X6_12 rfl (wk_0 hw) (wf_0_0 hw) dX6_goForward_59 ?_
        refine pr_iload_n hA dX6_goForward_62 rfl ?_
        refine pr_callVi hA [.int (σ (35 + r) ((σ 33 r).toNatClampNeg))] (c_lk_ax (pr_hl hA) hw (by first | assumption | exact nI_vin (by omega) (by decide) | omega)) v_X6_143 (wk_1 hw) (by decide) rfl rfl rfl (by decide) (Nat.zero_le _) (Nat.zero_le _) rfl (Nat.le_of_ble_eq_true rfl) dX6_goForward_63 ?_
        refine pr_aload_n hA dX6_goForward_66 rfl ?_
        refine pr_getR hA f_X6_28 rfl (wk_0 hw) (wf_0_2 hw) dX6_goForward_67 ?_
        refine pr_getR hA f_X6_146 rfl (wk_18 hw) (wf_18_2 hw) dX6_goForward_70 ?_
        refine pr_iload_n hA dX6_goForward_73 rfl ?_
        refine pr_ialdN (v := (σ 21 r)) hA (wk_21 hw) (by omega) (by decide) (ws_val (by decide)) dX6_goForward_74 ?_
        refine pr_join (c := (lk_ax_r σ (σ (35 + r) ((σ 33 r).toNatClampNeg))) < (σ 21 r)) (J := 83) (st := []) (0 : Int32) (1 : Int32) inferInstance (fun kt kf => ?_) ?_
        · refine pr_icmp_lt hA 82 dX6_goForward_75 (by decide) (fun c_75 => ?_) (fun c_75 => ?_)
          · refine pr_iconst hA (0) dX6_goForward_82 (by decide) ?_
            exact kt c_75
          · refine pr_iconst hA (1) dX6_goForward_78 (by decide) ?_
            refine pr_goto hA 83 dX6_goForward_79 (by decide) ?_
            exact kf c_75
        · exact kf c_55
    · refine pr_istore (ls' := [_, _, _, _, _]) hA dX6_goForward_83 (by decide) rfl ?_
      refine pr_iload hA dX6_goForward_85 rfl ?_
      refine pr_if_eq hA 100 dX6_goForward_87 (by decide) (fun c_87 => ?_) (fun c_87 => ?_)
      · refine pr_iload_n hA dX6_goForward_100 rfl ?_
        exact pr_ireturn hA rfl rfl (Nat.zero_le _) (Nat.zero_le _) dX6_goForward_101 ⟨(by simp only [w_fwd_r, if_pos c_20, if_pos c_87]), rfl, (by simp only [w_fwd, if_pos c_20, if_pos c_87]), rfl⟩
      · refine pr_aload_n hA dX6_goForward_90 rfl ?_
        refine pr_getR hA f_X6_21 rfl (wk_0 hw) (wf_0_1 hw) dX6_goForward_91 ?_
        refine pr_callVi hA [] (c_isFull (pr_hl hA) hw) v_X6_149 (wk_9 hw) (by decide) rfl rfl rfl (by decide) (Nat.zero_le _) (Nat.zero_le _) rfl (Nat.le_of_ble_eq_true rfl) dX6_goForward_94 ?_
        refine pr_if_eq hA 102 dX6_goForward_97 (by decide) (fun c_97 => ?_) (fun c_97 => ?_)
        · have hn500 : n < 500 := by
            by_cases q : n < 500
            · exact q
            · exact absurd c_97 (by rw [hn, if_neg (show ¬ (nI n < 500) from fun z => q ((nI_ltI (by omega) (by decide)).mp z))]; decide)
          refine pr_aload_n hA dX6_goForward_102 rfl ?_
          refine pr_getR hA f_X6_28 rfl (wk_0 hw) (wf_0_2 hw) dX6_goForward_103 ?_
          refine pr_getR hA f_X6_153 rfl (wk_18 hw) (wf_18_16 hw) dX6_goForward_106 ?_
          refine pr_iload_n hA dX6_goForward_109 rfl ?_
          refine pr_aaldN (t := 24) (n := 40) hA (Or.inl rfl) (wk_75 hw) (by omega) (by decide) (wf_q hw (by omega)) dX6_goForward_110 ?_
          refine pr_iload_n hA dX6_goForward_111 rfl ?_
          refine pr_aload_n hA dX6_goForward_112 rfl ?_
          refine pr_iload_n hA dX6_goForward_113 rfl ?_
          refine pr_iload_n hA dX6_goForward_114 rfl ?_
          refine pr_callVi hA [.int (nI r), .int (σ (35 + r) ((σ 33 r).toNatClampNeg))] (c_w_issue (pr_hl hA) hw hn (by omega) (by omega) (by first | assumption | exact nI_vin (by omega) (by decide) | omega)) v_X6_156 (wk_0 hw) (by decide) rfl rfl rfl (by decide) (Nat.zero_le _) (Nat.zero_le _) rfl (Nat.le_of_ble_eq_true rfl) dX6_goForward_115 ?_
          refine pr_iastE (I' := (ws_put I w (pr_up (w_issue σ n r (σ (35 + r) ((σ 33 r).toNatClampNeg))) (76 + r) ((σ 33 r).toNatClampNeg) (w_issue_r σ n r (σ (35 + r) ((σ 33 r).toNatClampNeg)))))) hA (wk_q hw (by omega)) (by assumption) (ws_up (by omega)) dX6_goForward_118 ?_
          refine pr_aload_n hA dX6_goForward_119 rfl ?_
          refine pr_getR hA f_X6_28 rfl (wk_0 hw) (wf_0_2 hw) dX6_goForward_120 ?_
          refine pr_getR hA f_X6_136 rfl (wk_18 hw) (wf_18_14 hw) dX6_goForward_123 ?_
          refine pr_iload_n hA dX6_goForward_126 rfl ?_
          refine pr_iload_n hA dX6_goForward_127 rfl ?_
          refine pr_iconst hA (1) dX6_goForward_128 (by decide) ?_
          refine pr_iadd hA dX6_goForward_129 ?_
          refine pr_iastN (I' := (ws_put I w (pr_up (pr_up (w_issue σ n r (σ (35 + r) ((σ 33 r).toNatClampNeg))) (76 + r) ((σ 33 r).toNatClampNeg) (w_issue_r σ n r (σ (35 + r) ((σ 33 r).toNatClampNeg)))) 33 r ((σ 33 r) + (1 : Int32))))) hA (wk_33 hw) (by omega) (by decide) (ws_up (by decide)) dX6_goForward_130 ?_
          refine pr_aload_n hA dX6_goForward_131 rfl ?_
          refine pr_getR hA f_X6_28 rfl (wk_0 hw) (wf_0_2 hw) dX6_goForward_132 ?_
          refine pr_getR hA f_X6_90 rfl (wk_18 hw) (wf_18_6 hw) dX6_goForward_135 ?_
          refine pr_iload_n hA dX6_goForward_138 rfl ?_
          refine pr_aload_n hA dX6_goForward_139 rfl ?_
          refine pr_getE (v := (σ 0 7)) hA f_X6_51 rfl (wk_0 hw) (ws_val0.trans ((pr_upv (by decide)).trans ((pr_upv (by omega)).trans (congrFun (fr_w_issue (by decide)) _)))) dX6_goForward_140 ?_
          refine pr_aload_n hA dX6_goForward_143 rfl ?_
          refine pr_getR hA f_X6_12 rfl (wk_0 hw) (wf_0_0 hw) dX6_goForward_144 ?_
          refine pr_getR hA f_X6_160 rfl (wk_1 hw) (wf_1_4 hw) dX6_goForward_147 ?_
          refine pr_iload_n hA dX6_goForward_150 rfl ?_
          refine pr_ialdE (v := (σ 6 ((σ (35 + r) ((σ 33 r).toNatClampNeg)).toNatClampNeg))) hA (wk_6 hw) (by assumption) ((ws_val (by decide)).trans ((pr_upv (by decide)).trans ((pr_upv (by omega)).trans (congrFun (fr_w_issue (by decide)) _)))) dX6_goForward_151 ?_
          refine pr_iadd hA dX6_goForward_152 ?_
          refine pr_iastN (I' := (ws_put I w (pr_up (pr_up (pr_up (w_issue σ n r (σ (35 + r) ((σ 33 r).toNatClampNeg))) (76 + r) ((σ 33 r).toNatClampNeg) (w_issue_r σ n r (σ (35 + r) ((σ 33 r).toNatClampNeg)))) 33 r ((σ 33 r) + (1 : Int32))) 25 r ((σ 0 7) + (σ 6 ((σ (35 + r) ((σ 33 r).toNatClampNeg)).toNatClampNeg)))))) hA (wk_25 hw) (by omega) (by decide) (ws_up (by decide)) dX6_goForward_153 ?_
          refine pr_iconst hA ((-1)) dX6_goForward_154 (by decide) ?_
          exact pr_ireturn hA rfl rfl (Nat.zero_le _) (Nat.zero_le _) dX6_goForward_155 ⟨(by simp only [w_fwd_r, if_pos c_20, if_neg c_87, if_pos c_97]), rfl, (by simp only [w_fwd, if_pos c_20, if_neg c_87, if_pos c_97]), rfl⟩
        · refine pr_iload_n hA dX6_goForward_100 rfl ?_
          exact pr_ireturn hA rfl rfl (Nat.zero_le _) (Nat.zero_le _) dX6_goForward_101 ⟨(by simp only [w_fwd_r, if_pos c_20, if_neg c_87, if_neg c_97]), rfl, (by simp only [w_fwd, if_pos c_20, if_neg c_87, if_neg c_97]), rfl⟩
  · refine pr_aload_n hA dX6_goForward_23 rfl ?_
    refine pr_getR hA f_X6_28 rfl (wk_0 hw) (wf_0_2 hw) dX6_goForward_24 ?_
    refine pr_getR hA f_X6_93 rfl (wk_18 hw) (wf_18_4 hw) dX6_goForward_27 ?_
    refine pr_iload_n hA dX6_goForward_30 rfl ?_
    refine pr_iconst hA (1) dX6_goForward_31 (by decide) ?_
    refine pr_iastN (I' := (ws_put I w (pr_up σ 23 r (1 : Int32)))) hA (wk_23 hw) (by omega) (by decide) (ws_up (by decide)) dX6_goForward_32 ?_
    refine pr_iconst hA ((-1)) dX6_goForward_33 (by decide) ?_
    exact pr_ireturn hA rfl rfl (Nat.zero_le _) (Nat.zero_le _) dX6_goForward_34 ⟨(by simp only [w_fwd_r, if_neg c_20]), rfl, (by simp only [w_fwd, if_neg c_20]), rfl⟩

theorem fr_w_fwd {σ : pr_I} {n : Nat} {r : Nat} {o : Nat} (hms : ∀ m ∈ ([7, 9, 10, 11, 12, 13, 14, 15, 16, 17, 23, 25, 26, 33] : List Nat), o ≠ m) (hp : o < 35 ∨ 115 < o) (hr40 : r < 40) : w_fwd σ n r o = σ o := by
  unfold w_fwd
  simp only [List.mem_cons, List.not_mem_nil, or_false, forall_eq_or_imp, forall_eq] at hms
  by_cases c_20 : (σ 33 r) < (σ 32 r)
  · refine (congrFun (if_pos c_20) o).trans ?_
    by_cases c_87 : (if (lk_ux_r σ (σ (35 + r) ((σ 33 r).toNatClampNeg))) = 0 then (0 : Int32) else (if (lk_ax_r σ (σ (35 + r) ((σ 33 r).toNatClampNeg))) < (σ 21 r) then (0 : Int32) else (1 : Int32))) = 0
    · refine (congrFun (if_pos c_87) o).trans ?_
      rfl
    · refine (congrFun (if_neg c_87) o).trans ?_
      by_cases c_97 : (if σ 9 8 < 500 then (0 : Int32) else 1) = 0
      · refine (congrFun (if_pos c_97) o).trans ?_
        rw [pr_up_ne (by omega), pr_up_ne (by omega), pr_up_ne (by omega), fr_w_issue (by simp only [List.mem_cons, List.not_mem_nil, or_false, forall_eq_or_imp, forall_eq]; omega)]
      · refine (congrFun (if_neg c_97) o).trans ?_
        rfl
  · refine (congrFun (if_neg c_20) o).trans ?_
    rw [pr_up_ne (by omega)]

def w_back_r (σ : pr_I) (r : Nat) : Int32 := (if 0 ≤ ((σ 33 r) - (1 : Int32)) then (if (σ 15 ((σ (76 + r) (((σ 33 r) - (1 : Int32)).toNatClampNeg)).toNatClampNeg)) = 0 then ((-1) : Int32) else (σ (35 + r) (((σ 33 r) - (1 : Int32)).toNatClampNeg))) else ((-1) : Int32))
def w_back (σ : pr_I) (r : Nat) : pr_I := (if 0 ≤ ((σ 33 r) - (1 : Int32)) then (if (σ 15 ((σ (76 + r) (((σ 33 r) - (1 : Int32)).toNatClampNeg)).toNatClampNeg)) = 0 then (pr_up (pr_up (pr_up σ 15 ((σ (76 + r) (((σ 33 r) - (1 : Int32)).toNatClampNeg)).toNatClampNeg) (1 : Int32)) 33 r ((σ 33 r) - (1 : Int32))) 25 r ((σ 0 7) + (σ 6 ((σ (35 + r) (((σ 33 r) - (1 : Int32)).toNatClampNeg)).toNatClampNeg)))) else σ) else (w_settle (pr_up (pr_up σ 29 r (σ 0 7)) 30 r ((σ 0 7) + (σ 22 r))) r (2 : Int32)))
set_option maxRecDepth 100000 in
set_option maxHeartbeats 4000000 in
theorem c_w_back {g : pr_C} {l : Launch} (hl : l.stackTraces = false) {T : pr_T} {I : pr_I} {L : pr_L} {w : Nat} {σ : pr_I} {r : Nat} (hw : pr_W T w) (hr : r < 40) (hb : 0 ≤ σ 33 r - 1 → vp_in (σ 33 r - 1) 11 ∧ vp_in (σ (35 + r) (σ 33 r - 1).toNatClampNeg) 24 ∧ vp_in (σ (76 + r) (σ 33 r - 1).toNatClampNeg) 500) : pr_M g l 2 0 0 mX6_goBack [.ref w, .int (nI r)] T (ws_put I w σ) L (pr_R (some (.int (w_back_r σ r))) T (ws_put I w (w_back σ r)) L) pr_no := by
  refine pr_ofG (by decide) rfl hl (Nat.le_of_ble_eq_true rfl) (fun X hA hX hXn hXt => ?_)
  subst hX
  show pr_G g X mX6_goBack.2.2.1 _ 0 0 0 [.ref w, .int (nI r), .null, .null, .null] [] T (ws_put I w σ) L
  refine pr_aload_n hA dX6_goBack_0 rfl ?_
  refine pr_getR hA f_X6_28 rfl (wk_0 hw) (wf_0_2 hw) dX6_goBack_1 ?_
  refine pr_getR hA f_X6_136 rfl (wk_18 hw) (wf_18_14 hw) dX6_goBack_4 ?_
  refine pr_iload_n hA dX6_goBack_7 rfl ?_
  refine pr_ialdN (v := (σ 33 r)) hA (wk_33 hw) (by omega) (by decide) (ws_val (by decide)) dX6_goBack_8 ?_
  refine pr_iconst hA (1) dX6_goBack_9 (by decide) ?_
  refine pr_isub hA dX6_goBack_10 ?_
  refine pr_istore_n (ls' := [_, _, _, _, _]) hA dX6_goBack_11 (by decide) rfl ?_
  refine pr_iload_n hA dX6_goBack_12 rfl ?_
  refine pr_if_ge hA 60 dX6_goBack_13 (by decide) (fun c_13 => ?_) (fun c_13 => ?_)
  · obtain ⟨b1, b2, b3⟩ := hb c_13
    refine pr_aload_n hA dX6_goBack_60 rfl ?_
    refine pr_getR hA f_X6_28 rfl (wk_0 hw) (wf_0_2 hw) dX6_goBack_61 ?_
    refine pr_getR hA f_X6_129 rfl (wk_18 hw) (wf_18_15 hw) dX6_goBack_64 ?_
    refine pr_iload_n hA dX6_goBack_67 rfl ?_
    refine pr_aaldN (t := 24) (n := 40) hA (Or.inl rfl) (wk_34 hw) (by omega) (by decide) (wf_p hw (by omega)) dX6_goBack_68 ?_
    refine pr_iload_n hA dX6_goBack_69 rfl ?_
    refine pr_ialdE (v := (σ (35 + r) (((σ 33 r) - (1 : Int32)).toNatClampNeg))) hA (wk_p hw (by omega)) (by assumption) (ws_val (by omega)) dX6_goBack_70 ?_
    refine pr_istore_n (ls' := [_, _, _, _, _]) hA dX6_goBack_71 (by decide) rfl ?_
    refine pr_aload_n hA dX6_goBack_72 rfl ?_
    refine pr_getR hA f_X6_28 rfl (wk_0 hw) (wf_0_2 hw) dX6_goBack_73 ?_
    refine pr_getR hA f_X6_153 rfl (wk_18 hw) (wf_18_16 hw) dX6_goBack_76 ?_
    refine pr_iload_n hA dX6_goBack_79 rfl ?_
    refine pr_aaldN (t := 24) (n := 40) hA (Or.inl rfl) (wk_75 hw) (by omega) (by decide) (wf_q hw (by omega)) dX6_goBack_80 ?_
    refine pr_iload_n hA dX6_goBack_81 rfl ?_
    refine pr_ialdE (v := (σ (76 + r) (((σ 33 r) - (1 : Int32)).toNatClampNeg))) hA (wk_q hw (by omega)) (by assumption) (ws_val (by omega)) dX6_goBack_82 ?_
    refine pr_istore (ls' := [_, _, _, _, _]) hA dX6_goBack_83 (by decide) rfl ?_
    refine pr_aload_n hA dX6_goBack_85 rfl ?_
    refine pr_getR hA f_X6_21 rfl (wk_0 hw) (wf_0_1 hw) dX6_goBack_86 ?_
    refine pr_getR hA f_X6_174 rfl (wk_9 hw) (wf_9_5 hw) dX6_goBack_89 ?_
    refine pr_iload hA dX6_goBack_92 rfl ?_
    refine pr_ialdE (v := (σ 15 ((σ (76 + r) (((σ 33 r) - (1 : Int32)).toNatClampNeg)).toNatClampNeg))) hA (wk_15 hw) (by assumption) (ws_val (by decide)) dX6_goBack_94 ?_
    refine pr_if_eq hA 100 dX6_goBack_95 (by decide) (fun c_95 => ?_) (fun c_95 => ?_)
    · refine pr_aload_n hA dX6_goBack_100 rfl ?_
      refine pr_getR hA f_X6_21 rfl (wk_0 hw) (wf_0_1 hw) dX6_goBack_101 ?_
      refine pr_getR hA f_X6_174 rfl (wk_9 hw) (wf_9_5 hw) dX6_goBack_104 ?_
      refine pr_iload hA dX6_goBack_107 rfl ?_
      refine pr_iconst hA (1) dX6_goBack_109 (by decide) ?_
      refine pr_iastE (I' := (ws_put I w (pr_up σ 15 ((σ (76 + r) (((σ 33 r) - (1 : Int32)).toNatClampNeg)).toNatClampNeg) (1 : Int32)))) hA (wk_15 hw) (by assumption) (ws_up (by decide)) dX6_goBack_110 ?_
      refine pr_aload_n hA dX6_goBack_111 rfl ?_
      refine pr_getR hA f_X6_28 rfl (wk_0 hw) (wf_0_2 hw) dX6_goBack_112 ?_
      refine pr_getR hA f_X6_136 rfl (wk_18 hw) (wf_18_14 hw) dX6_goBack_115 ?_
      refine pr_iload_n hA dX6_goBack_118 rfl ?_
      refine pr_iload_n hA dX6_goBack_119 rfl ?_
      refine pr_iastN (I' := (ws_put I w (pr_up (pr_up σ 15 ((σ (76 + r) (((σ 33 r) - (1 : Int32)).toNatClampNeg)).toNatClampNeg) (1 : Int32)) 33 r ((σ 33 r) - (1 : Int32))))) hA (wk_33 hw) (by omega) (by decide) (ws_up (by decide)) dX6_goBack_120 ?_
      refine pr_aload_n hA dX6_goBack_121 rfl ?_
      refine pr_getR hA f_X6_28 rfl (wk_0 hw) (wf_0_2 hw) dX6_goBack_122 ?_
      refine pr_getR hA f_X6_90 rfl (wk_18 hw) (wf_18_6 hw) dX6_goBack_125 ?_
      refine pr_iload_n hA dX6_goBack_128 rfl ?_
      refine pr_aload_n hA dX6_goBack_129 rfl ?_
      refine pr_getE (v := (σ 0 7)) hA f_X6_51 rfl (wk_0 hw) (ws_val0.trans ((pr_upv (by decide)).trans (pr_upv (by decide)))) dX6_goBack_130 ?_
      refine pr_aload_n hA dX6_goBack_133 rfl ?_
      refine pr_getR hA f_X6_12 rfl (wk_0 hw) (wf_0_0 hw) dX6_goBack_134 ?_
      refine pr_getR hA f_X6_160 rfl (wk_1 hw) (wf_1_4 hw) dX6_goBack_137 ?_
      refine pr_iload_n hA dX6_goBack_140 rfl ?_
      refine pr_ialdE (v := (σ 6 ((σ (35 + r) (((σ 33 r) - (1 : Int32)).toNatClampNeg)).toNatClampNeg))) hA (wk_6 hw) (by assumption) ((ws_val (by decide)).trans ((pr_upv (by decide)).trans (pr_upv (by decide)))) dX6_goBack_141 ?_
      refine pr_iadd hA dX6_goBack_142 ?_
      refine pr_iastN (I' := (ws_put I w (pr_up (pr_up (pr_up σ 15 ((σ (76 + r) (((σ 33 r) - (1 : Int32)).toNatClampNeg)).toNatClampNeg) (1 : Int32)) 33 r ((σ 33 r) - (1 : Int32))) 25 r ((σ 0 7) + (σ 6 ((σ (35 + r) (((σ 33 r) - (1 : Int32)).toNatClampNeg)).toNatClampNeg)))))) hA (wk_25 hw) (by omega) (by decide) (ws_up (by decide)) dX6_goBack_143 ?_
      refine pr_iconst hA ((-1)) dX6_goBack_144 (by decide) ?_
      exact pr_ireturn hA rfl rfl (Nat.zero_le _) (Nat.zero_le _) dX6_goBack_145 ⟨(by simp only [w_back_r, if_pos c_13, if_pos c_95]), rfl, (by simp only [w_back, if_pos c_13, if_pos c_95]), rfl⟩
    · refine pr_iload_n hA dX6_goBack_98 rfl ?_
      exact pr_ireturn hA rfl rfl (Nat.zero_le _) (Nat.zero_le _) dX6_goBack_99 ⟨(by simp only [w_back_r, if_pos c_13, if_neg c_95]), rfl, (by simp only [w_back, if_pos c_13, if_neg c_95]), rfl⟩
  · refine pr_aload_n hA dX6_goBack_16 rfl ?_
    refine pr_getR hA f_X6_28 rfl (wk_0 hw) (wf_0_2 hw) dX6_goBack_17 ?_
    refine pr_getR hA f_X6_188 rfl (wk_18 hw) (wf_18_10 hw) dX6_goBack_20 ?_
    refine pr_iload_n hA dX6_goBack_23 rfl ?_
    refine pr_aload_n hA dX6_goBack_24 rfl ?_
    refine pr_getE (v := (σ 0 7)) hA f_X6_51 rfl (wk_0 hw) ws_val0 dX6_goBack_25 ?_
    refine pr_iastN (I' := (ws_put I w (pr_up σ 29 r (σ 0 7)))) hA (wk_29 hw) (by omega) (by decide) (ws_up (by decide)) dX6_goBack_28 ?_
    refine pr_aload_n hA dX6_goBack_29 rfl ?_
    refine pr_getR hA f_X6_28 rfl (wk_0 hw) (wf_0_2 hw) dX6_goBack_30 ?_
    refine pr_getR hA f_X6_191 rfl (wk_18 hw) (wf_18_11 hw) dX6_goBack_33 ?_
    refine pr_iload_n hA dX6_goBack_36 rfl ?_
    refine pr_aload_n hA dX6_goBack_37 rfl ?_
    refine pr_getE (v := (σ 0 7)) hA f_X6_51 rfl (wk_0 hw) (ws_val0.trans (pr_upv (by decide))) dX6_goBack_38 ?_
    refine pr_aload_n hA dX6_goBack_41 rfl ?_
    refine pr_getR hA f_X6_28 rfl (wk_0 hw) (wf_0_2 hw) dX6_goBack_42 ?_
    refine pr_getR hA f_X6_194 rfl (wk_18 hw) (wf_18_3 hw) dX6_goBack_45 ?_
    refine pr_iload_n hA dX6_goBack_48 rfl ?_
    refine pr_ialdN (v := (σ 22 r)) hA (wk_22 hw) (by omega) (by decide) ((ws_val (by decide)).trans (pr_upv (by decide))) dX6_goBack_49 ?_
    refine pr_iadd hA dX6_goBack_50 ?_
    refine pr_iastN (I' := (ws_put I w (pr_up (pr_up σ 29 r (σ 0 7)) 30 r ((σ 0 7) + (σ 22 r))))) hA (wk_30 hw) (by omega) (by decide) (ws_up (by decide)) dX6_goBack_51 ?_
    refine pr_aload_n hA dX6_goBack_52 rfl ?_
    refine pr_iload_n hA dX6_goBack_53 rfl ?_
    refine pr_iconst hA (2) dX6_goBack_54 (by decide) ?_
    refine pr_callVv hA [.int (nI r), .int (2 : Int32)] (c_w_settle (pr_hl hA) hw (by omega)) v_X6_123 (wk_0 hw) (by decide) rfl rfl rfl (by decide) (Nat.zero_le _) (Nat.zero_le _) rfl (Nat.le_of_ble_eq_true rfl) dX6_goBack_55 ?_
    refine pr_iconst hA ((-1)) dX6_goBack_58 (by decide) ?_
    exact pr_ireturn hA rfl rfl (Nat.zero_le _) (Nat.zero_le _) dX6_goBack_59 ⟨(by simp only [w_back_r, if_neg c_13]), rfl, (by simp only [w_back, if_neg c_13]), rfl⟩

theorem fr_w_back {σ : pr_I} {r : Nat} {o : Nat} (hms : ∀ m ∈ ([15, 23, 25, 29, 30, 33] : List Nat), o ≠ m) : w_back σ r o = σ o := by
  unfold w_back
  simp only [List.mem_cons, List.not_mem_nil, or_false, forall_eq_or_imp, forall_eq] at hms
  by_cases c_13 : 0 ≤ ((σ 33 r) - (1 : Int32))
  · refine (congrFun (if_pos c_13) o).trans ?_
    by_cases c_95 : (σ 15 ((σ (76 + r) (((σ 33 r) - (1 : Int32)).toNatClampNeg)).toNatClampNeg)) = 0
    · refine (congrFun (if_pos c_95) o).trans ?_
      rw [pr_up_ne (by omega), pr_up_ne (by omega), pr_up_ne (by omega)]
    · refine (congrFun (if_neg c_95) o).trans ?_
      rfl
  · refine (congrFun (if_neg c_13) o).trans ?_
    rw [fr_w_settle (by simp only [List.mem_cons, List.not_mem_nil, or_false, forall_eq_or_imp, forall_eq]; omega), pr_up_ne (by omega), pr_up_ne (by omega)]

def w_fail (σ : pr_I) (n : Nat) (r : Nat) (x : Int32) : pr_I := (if ((σ 24 r) + (1 : Int32)) < (σ 119 2) then (pr_up (pr_up (pr_up (pr_up (pr_up (pr_up (w_ra σ n (nI r) (1 : Int32) (1 : Int32) (100 : Int32)) 28 r ((σ 28 r) ||| ((1 : Int32) <<< (x &&& 31)))) 24 r ((σ 24 r) + (1 : Int32))) 31 r x) 8 x.toNatClampNeg ((σ 8 x.toNatClampNeg) + (1 : Int32))) 23 r (7 : Int32)) 25 r ((σ 0 7) + (σ 119 1))) else (w_settle (pr_up (pr_up (pr_up (pr_up (w_ra σ n (nI r) (1 : Int32) (1 : Int32) (100 : Int32)) 28 r ((σ 28 r) ||| ((1 : Int32) <<< (x &&& 31)))) 24 r ((σ 24 r) + (1 : Int32))) 31 r x) 8 x.toNatClampNeg ((σ 8 x.toNatClampNeg) + (1 : Int32))) r (4 : Int32)))
set_option maxRecDepth 100000 in
set_option maxHeartbeats 4000000 in
theorem c_w_fail {g : pr_C} {l : Launch} (hl : l.stackTraces = false) {T : pr_T} {I : pr_I} {L : pr_L} {w : Nat} {σ : pr_I} {n : Nat} {r : Nat} {x : Int32} (hw : pr_W T w) (hn : σ 9 8 = nI n) (hn5 : n ≤ 500) (hB : ∀ t, t < n → vp_in (σ 10 t) 40 ∧ vp_in (σ 11 t) 24) (hr : r < 40) (hx : vp_in x 24) : pr_M g l 5 0 0 mX6_failAttempt [.ref w, .int (nI r), .int x] T (ws_put I w σ) L (pr_R none T (ws_put I w (w_fail σ n r x)) L) pr_no := by
  refine pr_ofG (by decide) rfl hl (Nat.le_of_ble_eq_true rfl) (fun X hA hX hXn hXt => ?_)
  subst hX
  show pr_G g X mX6_failAttempt.2.2.1 _ 0 0 0 [.ref w, .int (nI r), .int x] [] T (ws_put I w σ) L
  refine pr_aload_n hA dX6_failAttempt_0 rfl ?_
  refine pr_iload_n hA dX6_failAttempt_1 rfl ?_
  refine pr_iconst hA (1) dX6_failAttempt_2 (by decide) ?_
  refine pr_iconst hA (1) dX6_failAttempt_3 (by decide) ?_
  refine pr_bipush hA (100) dX6_failAttempt_4 (by decide) ?_
  refine pr_callVi hA [.int (nI r), .int (1 : Int32), .int (1 : Int32), .int (100 : Int32)] (c_w_ra (pr_hl hA) hw hn (by omega) (fun t ht => ⟨vin_eq rfl (hB t ht).1, vin_eq rfl (hB t ht).2⟩)) v_X6_197 (wk_0 hw) (by decide) rfl rfl rfl (by decide) (Nat.zero_le _) (Nat.zero_le _) rfl (Nat.le_of_ble_eq_true rfl) dX6_failAttempt_6 ?_
  refine pr_pop hA dX6_failAttempt_9 rfl ?_
  refine pr_aload_n hA dX6_failAttempt_10 rfl ?_
  refine pr_getR hA f_X6_28 rfl (wk_0 hw) (wf_0_2 hw) dX6_failAttempt_11 ?_
  refine pr_getR hA f_X6_110 rfl (wk_18 hw) (wf_18_9 hw) dX6_failAttempt_14 ?_
  refine pr_iload_n hA dX6_failAttempt_17 rfl ?_
  refine pr_dup2 hA dX6_failAttempt_18 rfl rfl ?_
  refine pr_ialdN (v := (σ 28 r)) hA (wk_28 hw) (by omega) (by decide) ((ws_val (by decide)).trans (congrFun (fr_w_ra (by decide)) _)) dX6_failAttempt_19 ?_
  refine pr_iconst hA (1) dX6_failAttempt_20 (by decide) ?_
  refine pr_iload_n hA dX6_failAttempt_21 rfl ?_
  refine pr_ishl hA dX6_failAttempt_22 ?_
  refine pr_ior hA dX6_failAttempt_23 ?_
  refine pr_iastN (I' := (ws_put I w (pr_up (w_ra σ n (nI r) (1 : Int32) (1 : Int32) (100 : Int32)) 28 r ((σ 28 r) ||| ((1 : Int32) <<< (x &&& 31)))))) hA (wk_28 hw) (by omega) (by decide) (ws_up (by decide)) dX6_failAttempt_24 ?_
  refine pr_aload_n hA dX6_failAttempt_25 rfl ?_
  refine pr_getR hA f_X6_28 rfl (wk_0 hw) (wf_0_2 hw) dX6_failAttempt_26 ?_
  refine pr_getR hA f_X6_201 rfl (wk_18 hw) (wf_18_5 hw) dX6_failAttempt_29 ?_
  refine pr_iload_n hA dX6_failAttempt_32 rfl ?_
  refine pr_dup2 hA dX6_failAttempt_33 rfl rfl ?_
  refine pr_ialdN (v := (σ 24 r)) hA (wk_24 hw) (by omega) (by decide) ((ws_val (by decide)).trans ((pr_upv (by decide)).trans (congrFun (fr_w_ra (by decide)) _))) dX6_failAttempt_34 ?_
  refine pr_iconst hA (1) dX6_failAttempt_35 (by decide) ?_
  refine pr_iadd hA dX6_failAttempt_36 ?_
  refine pr_iastN (I' := (ws_put I w (pr_up (pr_up (w_ra σ n (nI r) (1 : Int32) (1 : Int32) (100 : Int32)) 28 r ((σ 28 r) ||| ((1 : Int32) <<< (x &&& 31)))) 24 r ((σ 24 r) + (1 : Int32))))) hA (wk_24 hw) (by omega) (by decide) (ws_up (by decide)) dX6_failAttempt_37 ?_
  refine pr_aload_n hA dX6_failAttempt_38 rfl ?_
  refine pr_getR hA f_X6_28 rfl (wk_0 hw) (wf_0_2 hw) dX6_failAttempt_39 ?_
  refine pr_getR hA f_X6_204 rfl (wk_18 hw) (wf_18_12 hw) dX6_failAttempt_42 ?_
  refine pr_iload_n hA dX6_failAttempt_45 rfl ?_
  refine pr_iload_n hA dX6_failAttempt_46 rfl ?_
  refine pr_iastN (I' := (ws_put I w (pr_up (pr_up (pr_up (w_ra σ n (nI r) (1 : Int32) (1 : Int32) (100 : Int32)) 28 r ((σ 28 r) ||| ((1 : Int32) <<< (x &&& 31)))) 24 r ((σ 24 r) + (1 : Int32))) 31 r x))) hA (wk_31 hw) (by omega) (by decide) (ws_up (by decide)) dX6_failAttempt_47 ?_
  refine pr_aload_n hA dX6_failAttempt_48 rfl ?_
  refine pr_getR hA f_X6_12 rfl (wk_0 hw) (wf_0_0 hw) dX6_failAttempt_49 ?_
  refine pr_getR hA f_X6_207 rfl (wk_1 hw) (wf_1_6 hw) dX6_failAttempt_52 ?_
  refine pr_iload_n hA dX6_failAttempt_55 rfl ?_
  refine pr_dup2 hA dX6_failAttempt_56 rfl rfl ?_
  refine pr_ialdE (v := (σ 8 x.toNatClampNeg)) hA (wk_8 hw) (by assumption) ((ws_val (by decide)).trans ((pr_upv (by decide)).trans ((pr_upv (by decide)).trans ((pr_upv (by decide)).trans (congrFun (fr_w_ra (by decide)) _))))) dX6_failAttempt_57 ?_
  refine pr_iconst hA (1) dX6_failAttempt_58 (by decide) ?_
  refine pr_iadd hA dX6_failAttempt_59 ?_
  refine pr_iastE (I' := (ws_put I w (pr_up (pr_up (pr_up (pr_up (w_ra σ n (nI r) (1 : Int32) (1 : Int32) (100 : Int32)) 28 r ((σ 28 r) ||| ((1 : Int32) <<< (x &&& 31)))) 24 r ((σ 24 r) + (1 : Int32))) 31 r x) 8 x.toNatClampNeg ((σ 8 x.toNatClampNeg) + (1 : Int32))))) hA (wk_8 hw) (by assumption) (ws_up (by decide)) dX6_failAttempt_60 ?_
  refine pr_aload_n hA dX6_failAttempt_61 rfl ?_
  refine pr_getR hA f_X6_28 rfl (wk_0 hw) (wf_0_2 hw) dX6_failAttempt_62 ?_
  refine pr_getR hA f_X6_201 rfl (wk_18 hw) (wf_18_5 hw) dX6_failAttempt_65 ?_
  refine pr_iload_n hA dX6_failAttempt_68 rfl ?_
  refine pr_ialdN (v := ((σ 24 r) + (1 : Int32))) hA (wk_24 hw) (by omega) (by decide) ((ws_val (by decide)).trans ((pr_upv (by decide)).trans ((pr_upv (by decide)).trans pr_upe))) dX6_failAttempt_69 ?_
  refine pr_aload_n hA dX6_failAttempt_70 rfl ?_
  refine pr_getR hA f_X6_39 rfl (wk_0 hw) (wf_0_4 hw) dX6_failAttempt_71 ?_
  refine pr_iconst hA (nI 2) dX6_failAttempt_74 (by decide) ?_
  refine pr_ialdN (v := (σ 119 2)) hA (wk_119 hw) (by omega) (by decide) ((ws_val (by decide)).trans ((pr_upv (by decide)).trans ((pr_upv (by decide)).trans ((pr_upv (by decide)).trans ((pr_upv (by decide)).trans (congrFun (fr_w_ra (by decide)) _)))))) dX6_failAttempt_75 ?_
  refine pr_icmp_lt hA 88 dX6_failAttempt_76 (by decide) (fun c_76 => ?_) (fun c_76 => ?_)
  · refine pr_aload_n hA dX6_failAttempt_88 rfl ?_
    refine pr_getR hA f_X6_28 rfl (wk_0 hw) (wf_0_2 hw) dX6_failAttempt_89 ?_
    refine pr_getR hA f_X6_93 rfl (wk_18 hw) (wf_18_4 hw) dX6_failAttempt_92 ?_
    refine pr_iload_n hA dX6_failAttempt_95 rfl ?_
    refine pr_bipush hA (7) dX6_failAttempt_96 (by decide) ?_
    refine pr_iastN (I' := (ws_put I w (pr_up (pr_up (pr_up (pr_up (pr_up (w_ra σ n (nI r) (1 : Int32) (1 : Int32) (100 : Int32)) 28 r ((σ 28 r) ||| ((1 : Int32) <<< (x &&& 31)))) 24 r ((σ 24 r) + (1 : Int32))) 31 r x) 8 x.toNatClampNeg ((σ 8 x.toNatClampNeg) + (1 : Int32))) 23 r (7 : Int32)))) hA (wk_23 hw) (by omega) (by decide) (ws_up (by decide)) dX6_failAttempt_98 ?_
    refine pr_aload_n hA dX6_failAttempt_99 rfl ?_
    refine pr_getR hA f_X6_28 rfl (wk_0 hw) (wf_0_2 hw) dX6_failAttempt_100 ?_
    refine pr_getR hA f_X6_90 rfl (wk_18 hw) (wf_18_6 hw) dX6_failAttempt_103 ?_
    refine pr_iload_n hA dX6_failAttempt_106 rfl ?_
    refine pr_aload_n hA dX6_failAttempt_107 rfl ?_
    refine pr_getE (v := (σ 0 7)) hA f_X6_51 rfl (wk_0 hw) (ws_val0.trans ((pr_upv (by decide)).trans ((pr_upv (by decide)).trans ((pr_upv (by decide)).trans ((pr_upv (by decide)).trans ((pr_upv (by decide)).trans (congrFun (fr_w_ra (by decide)) _))))))) dX6_failAttempt_108 ?_
    refine pr_aload_n hA dX6_failAttempt_111 rfl ?_
    refine pr_getR hA f_X6_39 rfl (wk_0 hw) (wf_0_4 hw) dX6_failAttempt_112 ?_
    refine pr_iconst hA (nI 1) dX6_failAttempt_115 (by decide) ?_
    refine pr_ialdN (v := (σ 119 1)) hA (wk_119 hw) (by omega) (by decide) ((ws_val (by decide)).trans ((pr_upv (by decide)).trans ((pr_upv (by decide)).trans ((pr_upv (by decide)).trans ((pr_upv (by decide)).trans ((pr_upv (by decide)).trans (congrFun (fr_w_ra (by decide)) _))))))) dX6_failAttempt_116 ?_
    refine pr_iadd hA dX6_failAttempt_117 ?_
    refine pr_iastN (I' := (ws_put I w (pr_up (pr_up (pr_up (pr_up (pr_up (pr_up (w_ra σ n (nI r) (1 : Int32) (1 : Int32) (100 : Int32)) 28 r ((σ 28 r) ||| ((1 : Int32) <<< (x &&& 31)))) 24 r ((σ 24 r) + (1 : Int32))) 31 r x) 8 x.toNatClampNeg ((σ 8 x.toNatClampNeg) + (1 : Int32))) 23 r (7 : Int32)) 25 r ((σ 0 7) + (σ 119 1))))) hA (wk_25 hw) (by omega) (by decide) (ws_up (by decide)) dX6_failAttempt_118 ?_
    exact pr_return hA rfl (Nat.zero_le _) (Nat.zero_le _) dX6_failAttempt_119 ⟨rfl, rfl, (by simp only [w_fail, if_pos c_76]), rfl⟩
  · refine pr_aload_n hA dX6_failAttempt_79 rfl ?_
    refine pr_iload_n hA dX6_failAttempt_80 rfl ?_
    refine pr_iconst hA (4) dX6_failAttempt_81 (by decide) ?_
    refine pr_callVv hA [.int (nI r), .int (4 : Int32)] (c_w_settle (pr_hl hA) hw (by omega)) v_X6_123 (wk_0 hw) (by decide) rfl rfl rfl (by decide) (Nat.zero_le _) (Nat.zero_le _) rfl (Nat.le_of_ble_eq_true rfl) dX6_failAttempt_82 ?_
    refine pr_goto hA 119 dX6_failAttempt_85 (by decide) ?_
    exact pr_return hA rfl (Nat.zero_le _) (Nat.zero_le _) dX6_failAttempt_119 ⟨rfl, rfl, (by simp only [w_fail, if_neg c_76]), rfl⟩

theorem fr_w_fail {σ : pr_I} {n : Nat} {r : Nat} {x : Int32} {o : Nat} (hms : ∀ m ∈ ([7, 8, 15, 17, 23, 24, 25, 27, 28, 31] : List Nat), o ≠ m) : w_fail σ n r x o = σ o := by
  unfold w_fail
  simp only [List.mem_cons, List.not_mem_nil, or_false, forall_eq_or_imp, forall_eq] at hms
  by_cases c_76 : ((σ 24 r) + (1 : Int32)) < (σ 119 2)
  · refine (congrFun (if_pos c_76) o).trans ?_
    rw [pr_up_ne (by omega), pr_up_ne (by omega), pr_up_ne (by omega), pr_up_ne (by omega), pr_up_ne (by omega), pr_up_ne (by omega), fr_w_ra (by simp only [List.mem_cons, List.not_mem_nil, or_false, forall_eq_or_imp, forall_eq]; omega)]
  · refine (congrFun (if_neg c_76) o).trans ?_
    rw [fr_w_settle (by simp only [List.mem_cons, List.not_mem_nil, or_false, forall_eq_or_imp, forall_eq]; omega), pr_up_ne (by omega), pr_up_ne (by omega), pr_up_ne (by omega), pr_up_ne (by omega), fr_w_ra (by simp only [List.mem_cons, List.not_mem_nil, or_false, forall_eq_or_imp, forall_eq]; omega)]

def w_cancel_r (σ : pr_I) (n : Nat) (r : Nat) : Int32 := (w_ra_r (pr_up (w_settle σ r (5 : Int32)) 30 r (σ 0 7)) n (nI r) (if (if (σ 23 r) = (2 : Int32) then (1 : Int32) else (0 : Int32)) = 0 then (1 : Int32) else ((σ 30 r) - (σ 0 7))) (if (if (σ 23 r) = (2 : Int32) then (1 : Int32) else (0 : Int32)) = 0 then (1 : Int32) else (σ 22 r)) (σ 119 4))
def w_cancel (σ : pr_I) (n : Nat) (r : Nat) : pr_I := (w_ra (pr_up (w_settle σ r (5 : Int32)) 30 r (σ 0 7)) n (nI r) (if (if (σ 23 r) = (2 : Int32) then (1 : Int32) else (0 : Int32)) = 0 then (1 : Int32) else ((σ 30 r) - (σ 0 7))) (if (if (σ 23 r) = (2 : Int32) then (1 : Int32) else (0 : Int32)) = 0 then (1 : Int32) else (σ 22 r)) (σ 119 4))
set_option maxRecDepth 100000 in
set_option maxHeartbeats 4000000 in
theorem c_w_cancel {g : pr_C} {l : Launch} (hl : l.stackTraces = false) {T : pr_T} {I : pr_I} {L : pr_L} {w : Nat} {σ : pr_I} {n : Nat} {r : Nat} (hw : pr_W T w) (hn : σ 9 8 = nI n) (hn5 : n ≤ 500) (hB : ∀ t, t < n → vp_in (σ 10 t) 40 ∧ vp_in (σ 11 t) 24) (hr : r < 40) : pr_M g l 5 0 0 mX6_cancelRequest [.ref w, .int (nI r)] T (ws_put I w σ) L (pr_R (some (.int (w_cancel_r σ n r))) T (ws_put I w (w_cancel σ n r)) L) pr_no := by
  refine pr_ofG (by decide) rfl hl (Nat.le_of_ble_eq_true rfl) (fun X hA hX hXn hXt => ?_)
  subst hX
  show pr_G g X mX6_cancelRequest.2.2.1 _ 0 0 0 [.ref w, .int (nI r), .null, .null, .null] [] T (ws_put I w σ) L
  refine pr_aload_n hA dX6_cancelRequest_0 rfl ?_
  refine pr_getR hA f_X6_28 rfl (wk_0 hw) (wf_0_2 hw) dX6_cancelRequest_1 ?_
  refine pr_getR hA f_X6_93 rfl (wk_18 hw) (wf_18_4 hw) dX6_cancelRequest_4 ?_
  refine pr_iload_n hA dX6_cancelRequest_7 rfl ?_
  refine pr_ialdN (v := (σ 23 r)) hA (wk_23 hw) (by omega) (by decide) (ws_val (by decide)) dX6_cancelRequest_8 ?_
  refine pr_iconst hA (2) dX6_cancelRequest_9 (by decide) ?_
  refine pr_join (c := (σ 23 r) = (2 : Int32)) (J := 18) (st := []) (1 : Int32) (0 : Int32) inferInstance (fun kt kf => ?_) ?_
  · refine pr_icmp_ne hA 17 dX6_cancelRequest_10 (by decide) (fun c_10 => ?_) (fun c_10 => ?_)
    · refine pr_iconst hA (0) dX6_cancelRequest_17 (by decide) ?_
      exact kf c_10
    · refine pr_iconst hA (1) dX6_cancelRequest_13 (by decide) ?_
      refine pr_goto hA 18 dX6_cancelRequest_14 (by decide) ?_
      exact kt c_10
  · refine pr_istore_n (ls' := [_, _, _, _, _]) hA dX6_cancelRequest_18 (by decide) rfl ?_
    refine pr_iload_n hA dX6_cancelRequest_19 rfl ?_
    refine pr_join (c := (if (σ 23 r) = (2 : Int32) then (1 : Int32) else (0 : Int32)) = 0) (J := 41) (st := []) (1 : Int32) ((σ 30 r) - (σ 0 7)) inferInstance (fun kt kf => ?_) ?_
    · refine pr_if_eq hA 40 dX6_cancelRequest_20 (by decide) (fun c_20 => ?_) (fun c_20 => ?_)
      · refine pr_iconst hA (1) dX6_cancelRequest_40 (by decide) ?_
        exact kt c_20
      · refine pr_aload_n hA dX6_cancelRequest_23 rfl ?_
        refine pr_getR hA f_X6_28 rfl (wk_0 hw) (wf_0_2 hw) dX6_cancelRequest_24 ?_
        refine pr_getR hA f_X6_191 rfl (wk_18 hw) (wf_18_11 hw) dX6_cancelRequest_27 ?_
        refine pr_iload_n hA dX6_cancelRequest_30 rfl ?_
        refine pr_ialdN (v := (σ 30 r)) hA (wk_30 hw) (by omega) (by decide) (ws_val (by decide)) dX6_cancelRequest_31 ?_
        refine pr_aload_n hA dX6_cancelRequest_32 rfl ?_
        refine pr_getE (v := (σ 0 7)) hA f_X6_51 rfl (wk_0 hw) ws_val0 dX6_cancelRequest_33 ?_
        refine pr_isub hA dX6_cancelRequest_36 ?_
        refine pr_goto hA 41 dX6_cancelRequest_37 (by decide) ?_
        exact kf c_20
    · refine pr_istore_n (ls' := [_, _, _, _, _]) hA dX6_cancelRequest_41 (by decide) rfl ?_
      refine pr_iload_n hA dX6_cancelRequest_42 rfl ?_
      refine pr_join (c := (if (σ 23 r) = (2 : Int32) then (1 : Int32) else (0 : Int32)) = 0) (J := 59) (st := []) (1 : Int32) (σ 22 r) inferInstance (fun kt kf => ?_) ?_
      · refine pr_if_eq hA 58 dX6_cancelRequest_43 (by decide) (fun c_43 => ?_) (fun c_43 => ?_)
        · refine pr_iconst hA (1) dX6_cancelRequest_58 (by decide) ?_
          exact kt c_43
        · refine pr_aload_n hA dX6_cancelRequest_46 rfl ?_
          refine pr_getR hA f_X6_28 rfl (wk_0 hw) (wf_0_2 hw) dX6_cancelRequest_47 ?_
          refine pr_getR hA f_X6_194 rfl (wk_18 hw) (wf_18_3 hw) dX6_cancelRequest_50 ?_
          refine pr_iload_n hA dX6_cancelRequest_53 rfl ?_
          refine pr_ialdN (v := (σ 22 r)) hA (wk_22 hw) (by omega) (by decide) (ws_val (by decide)) dX6_cancelRequest_54 ?_
          refine pr_goto hA 59 dX6_cancelRequest_55 (by decide) ?_
          exact kf c_43
      · refine pr_istore (ls' := [_, _, _, _, _]) hA dX6_cancelRequest_59 (by decide) rfl ?_
        refine pr_aload_n hA dX6_cancelRequest_61 rfl ?_
        refine pr_iload_n hA dX6_cancelRequest_62 rfl ?_
        refine pr_iconst hA (5) dX6_cancelRequest_63 (by decide) ?_
        refine pr_callVv hA [.int (nI r), .int (5 : Int32)] (c_w_settle (pr_hl hA) hw (by omega)) v_X6_123 (wk_0 hw) (by decide) rfl rfl rfl (by decide) (Nat.zero_le _) (Nat.zero_le _) rfl (Nat.le_of_ble_eq_true rfl) dX6_cancelRequest_64 ?_
        refine pr_aload_n hA dX6_cancelRequest_67 rfl ?_
        refine pr_getR hA f_X6_28 rfl (wk_0 hw) (wf_0_2 hw) dX6_cancelRequest_68 ?_
        refine pr_getR hA f_X6_191 rfl (wk_18 hw) (wf_18_11 hw) dX6_cancelRequest_71 ?_
        refine pr_iload_n hA dX6_cancelRequest_74 rfl ?_
        refine pr_aload_n hA dX6_cancelRequest_75 rfl ?_
        refine pr_getE (v := (σ 0 7)) hA f_X6_51 rfl (wk_0 hw) (ws_val0.trans (congrFun (fr_w_settle (by decide)) _)) dX6_cancelRequest_76 ?_
        refine pr_iastN (I' := (ws_put I w (pr_up (w_settle σ r (5 : Int32)) 30 r (σ 0 7)))) hA (wk_30 hw) (by omega) (by decide) (ws_up (by decide)) dX6_cancelRequest_79 ?_
        refine pr_aload_n hA dX6_cancelRequest_80 rfl ?_
        refine pr_iload_n hA dX6_cancelRequest_81 rfl ?_
        refine pr_iload_n hA dX6_cancelRequest_82 rfl ?_
        refine pr_iload hA dX6_cancelRequest_83 rfl ?_
        refine pr_aload_n hA dX6_cancelRequest_85 rfl ?_
        refine pr_getR hA f_X6_39 rfl (wk_0 hw) (wf_0_4 hw) dX6_cancelRequest_86 ?_
        refine pr_iconst hA (nI 4) dX6_cancelRequest_89 (by decide) ?_
        refine pr_ialdN (v := (σ 119 4)) hA (wk_119 hw) (by omega) (by decide) ((ws_val (by decide)).trans ((pr_upv (by decide)).trans (congrFun (fr_w_settle (by decide)) _))) dX6_cancelRequest_90 ?_
        refine pr_callVi hA [.int (nI r), .int (if (if (σ 23 r) = (2 : Int32) then (1 : Int32) else (0 : Int32)) = 0 then (1 : Int32) else ((σ 30 r) - (σ 0 7))), .int (if (if (σ 23 r) = (2 : Int32) then (1 : Int32) else (0 : Int32)) = 0 then (1 : Int32) else (σ 22 r)), .int (σ 119 4)] (c_w_ra (pr_hl hA) hw ((pr_upv (by decide)).trans ((congrFun (fr_w_settle (by decide)) _).trans hn)) (by omega) (fun t ht => ⟨vin_eq ((pr_upv (by decide)).trans (congrFun (fr_w_settle (by decide)) _)) (hB t ht).1, vin_eq ((pr_upv (by decide)).trans (congrFun (fr_w_settle (by decide)) _)) (hB t ht).2⟩)) v_X6_197 (wk_0 hw) (by decide) rfl rfl rfl (by decide) (Nat.zero_le _) (Nat.zero_le _) rfl (Nat.le_of_ble_eq_true rfl) dX6_cancelRequest_91 ?_
        exact pr_ireturn hA rfl rfl (Nat.zero_le _) (Nat.zero_le _) dX6_cancelRequest_94 ⟨rfl, rfl, rfl, rfl⟩

theorem fr_w_cancel {σ : pr_I} {n : Nat} {r : Nat} {o : Nat} (hms : ∀ m ∈ ([7, 15, 17, 23, 25, 27, 30] : List Nat), o ≠ m) : w_cancel σ n r o = σ o := by
  unfold w_cancel
  simp only [List.mem_cons, List.not_mem_nil, or_false, forall_eq_or_imp, forall_eq] at hms
  rw [fr_w_ra (by simp only [List.mem_cons, List.not_mem_nil, or_false, forall_eq_or_imp, forall_eq]; omega), pr_up_ne (by omega), fr_w_settle (by simp only [List.mem_cons, List.not_mem_nil, or_false, forall_eq_or_imp, forall_eq]; omega)]

def w_exp_it2 (σ : pr_I) (n : Nat) : Nat → pr_I
  | 0 => σ
  | k + 1 => (if ((w_exp_it2 σ n k) 15 k) = 0 then (if (σ 14 k) = (σ 0 7) then (w_rel (w_exp_it2 σ n k) k (2 : Int32) (((σ 16 k) * (σ 119 3)) / (100 : Int32))) else (w_exp_it2 σ n k)) else (w_exp_it2 σ n k))
theorem fr_w_exp_it2 {σ : pr_I} {n : Nat} {o : Nat} (hms : ∀ m ∈ ([7, 15, 17, 27] : List Nat), o ≠ m) : ∀ {k : Nat}, (w_exp_it2 σ n k) o = σ o := by
  simp only [List.mem_cons, List.not_mem_nil, or_false, forall_eq_or_imp, forall_eq] at hms
  intro k
  induction k with
  | zero =>
    show σ o = σ o
    rfl
  | succ k ih =>
    by_cases c_22 : ((w_exp_it2 σ n k) 15 k) = 0
    · refine (congrFun (congrArg (fun z : pr_I => z) (if_pos c_22)) o).trans ?_
      by_cases c_38 : (σ 14 k) = (σ 0 7)
      · refine (congrFun (congrArg (fun z : pr_I => z) (if_pos c_38)) o).trans ?_
        show (w_rel (w_exp_it2 σ n k) k (2 : Int32) (((σ 16 k) * (σ 119 3)) / (100 : Int32))) o = σ o
        rw [fr_w_rel (by simp only [List.mem_cons, List.not_mem_nil, or_false, forall_eq_or_imp, forall_eq]; omega), ih]
      · refine (congrFun (congrArg (fun z : pr_I => z) (if_neg c_38)) o).trans ?_
        show (w_exp_it2 σ n k) o = σ o
        rw [ih]
    · refine (congrFun (congrArg (fun z : pr_I => z) (if_neg c_22)) o).trans ?_
      show (w_exp_it2 σ n k) o = σ o
      rw [ih]

def w_exp (σ : pr_I) (n : Nat) : pr_I := (w_exp_it2 σ n n)
set_option maxRecDepth 100000 in
set_option maxHeartbeats 4000000 in
theorem c_w_exp {g : pr_C} {l : Launch} (hl : l.stackTraces = false) {T : pr_T} {I : pr_I} {L : pr_L} {w : Nat} {σ : pr_I} {n : Nat} (hw : pr_W T w) (hn : σ 9 8 = nI n) (hn5 : n ≤ 500) (hB : ∀ t, t < n → vp_in (σ 10 t) 40 ∧ vp_in (σ 11 t) 24) : pr_M g l 3 0 0 mX6_expireTickets [.ref w] T (ws_put I w σ) L (pr_R none T (ws_put I w (w_exp σ n)) L) pr_no := by
  refine pr_ofG (by decide) rfl hl (Nat.le_of_ble_eq_true rfl) (fun X hA hX hXn hXt => ?_)
  subst hX
  show pr_G g X mX6_expireTickets.2.2.1 _ 0 0 0 [.ref w, .null] [] T (ws_put I w σ) L
  refine pr_iconst hA (nI 0) dX6_expireTickets_0 (by decide) ?_
  refine pr_istore_n (ls' := [_, _]) hA dX6_expireTickets_1 (by decide) rfl ?_
  have lp2 : ∀ (j k : Nat), n - k = j → k ≤ n → pr_G g X mX6_expireTickets.2.2.1 (pr_MQ g X (pr_R none T (ws_put I w (w_exp σ n)) L) pr_no 0 0) 0 0 2 [.ref w, .int (nI k)] [] T (ws_put I w (w_exp_it2 σ n k)) L := by
    intro j
    induction j using Nat.strongRecOn with | ind j ih2 =>
    intro k hj2 hk2
    refine pr_iload_n hA dX6_expireTickets_2 rfl ?_
    refine pr_aload_n hA dX6_expireTickets_3 rfl ?_
    refine pr_getR hA f_X6_21 rfl (wk_0 hw) (wf_0_1 hw) dX6_expireTickets_4 ?_
    refine pr_getE (v := (nI n)) hA f_X6_69 rfl (wk_9 hw) ((ws_val (by decide)).trans ((congrFun (fr_w_exp_it2 (by decide)) _).trans hn)) dX6_expireTickets_7 ?_
    refine pr_icmp_ge hA 72 dX6_expireTickets_10 (by decide) (fun c_10 => ?_) (fun c_10 => ?_)
    · have n_10 : n ≤ k := (nI_leI (by omega) (by omega)).mp c_10
      have hex : n = k := by omega
      subst hex
      exact pr_return hA rfl (Nat.zero_le _) (Nat.zero_le _) dX6_expireTickets_72 ⟨rfl, rfl, rfl, rfl⟩
    · have n_10 : ¬ n ≤ k := fun q => c_10 ((nI_leI (by omega) (by omega)).mpr q)
      refine pr_aload_n hA dX6_expireTickets_13 rfl ?_
      refine pr_getR hA f_X6_21 rfl (wk_0 hw) (wf_0_1 hw) dX6_expireTickets_14 ?_
      refine pr_getR hA f_X6_174 rfl (wk_9 hw) (wf_9_5 hw) dX6_expireTickets_17 ?_
      refine pr_iload_n hA dX6_expireTickets_20 rfl ?_
      refine pr_ialdN (v := ((w_exp_it2 σ n k) 15 k)) hA (wk_15 hw) (by omega) (by decide) (ws_val (by decide)) dX6_expireTickets_21 ?_
      refine pr_if_ne hA 66 dX6_expireTickets_22 (by decide) (fun c_22 => ?_) (fun c_22 => ?_)
      · refine pr_iinc (ls' := [_, _]) hA (nI (k + 1)) dX6_expireTickets_66 (by decide) rfl (nI_inc _) rfl ?_
        refine pr_goto hA 2 dX6_expireTickets_69 (by decide) ?_
        have hb := ih2 (n - (k + 1)) (by omega) (k + 1) rfl (by omega)
        simp only [w_exp_it2, if_neg c_22] at hb
        exact hb
      · refine pr_aload_n hA dX6_expireTickets_25 rfl ?_
        refine pr_getR hA f_X6_21 rfl (wk_0 hw) (wf_0_1 hw) dX6_expireTickets_26 ?_
        refine pr_getR hA f_X6_171 rfl (wk_9 hw) (wf_9_4 hw) dX6_expireTickets_29 ?_
        refine pr_iload_n hA dX6_expireTickets_32 rfl ?_
        refine pr_ialdN (v := (σ 14 k)) hA (wk_14 hw) (by omega) (by decide) ((ws_val (by decide)).trans (congrFun (fr_w_exp_it2 (by decide)) _)) dX6_expireTickets_33 ?_
        refine pr_aload_n hA dX6_expireTickets_34 rfl ?_
        refine pr_getE (v := (σ 0 7)) hA f_X6_51 rfl (wk_0 hw) (ws_val0.trans (congrFun (fr_w_exp_it2 (by decide)) _)) dX6_expireTickets_35 ?_
        refine pr_icmp_ne hA 66 dX6_expireTickets_38 (by decide) (fun c_38 => ?_) (fun c_38 => ?_)
        · refine pr_iinc (ls' := [_, _]) hA (nI (k + 1)) dX6_expireTickets_66 (by decide) rfl (nI_inc _) rfl ?_
          refine pr_goto hA 2 dX6_expireTickets_69 (by decide) ?_
          have hb := ih2 (n - (k + 1)) (by omega) (k + 1) rfl (by omega)
          simp only [w_exp_it2, if_pos c_22, if_neg c_38] at hb
          exact hb
        · refine pr_aload_n hA dX6_expireTickets_41 rfl ?_
          refine pr_iload_n hA dX6_expireTickets_42 rfl ?_
          refine pr_iconst hA (2) dX6_expireTickets_43 (by decide) ?_
          refine pr_aload_n hA dX6_expireTickets_44 rfl ?_
          refine pr_getR hA f_X6_21 rfl (wk_0 hw) (wf_0_1 hw) dX6_expireTickets_45 ?_
          refine pr_getR hA f_X6_175 rfl (wk_9 hw) (wf_9_6 hw) dX6_expireTickets_48 ?_
          refine pr_iload_n hA dX6_expireTickets_51 rfl ?_
          refine pr_ialdN (v := (σ 16 k)) hA (wk_16 hw) (by omega) (by decide) ((ws_val (by decide)).trans (congrFun (fr_w_exp_it2 (by decide)) _)) dX6_expireTickets_52 ?_
          refine pr_aload_n hA dX6_expireTickets_53 rfl ?_
          refine pr_getR hA f_X6_39 rfl (wk_0 hw) (wf_0_4 hw) dX6_expireTickets_54 ?_
          refine pr_iconst hA (nI 3) dX6_expireTickets_57 (by decide) ?_
          refine pr_ialdN (v := (σ 119 3)) hA (wk_119 hw) (by omega) (by decide) ((ws_val (by decide)).trans (congrFun (fr_w_exp_it2 (by decide)) _)) dX6_expireTickets_58 ?_
          refine pr_imul hA dX6_expireTickets_59 ?_
          refine pr_bipush hA (100) dX6_expireTickets_60 (by decide) ?_
          refine pr_idiv hA dX6_expireTickets_62 (by decide) ?_
          refine pr_callVv hA [.int (nI k), .int (2 : Int32), .int (((σ 16 k) * (σ 119 3)) / (100 : Int32))] (c_w_rel (pr_hl hA) hw (by omega) (vin_eq (congrFun (fr_w_exp_it2 (by decide)) _) (hB k (by omega)).1) (vin_eq (congrFun (fr_w_exp_it2 (by decide)) _) (hB k (by omega)).2)) v_X6_213 (wk_0 hw) (by decide) rfl rfl rfl (by decide) (Nat.zero_le _) (Nat.zero_le _) rfl (Nat.le_of_ble_eq_true rfl) dX6_expireTickets_63 ?_
          refine pr_iinc (ls' := [_, _]) hA (nI (k + 1)) dX6_expireTickets_66 (by decide) rfl (nI_inc _) rfl ?_
          refine pr_goto hA 2 dX6_expireTickets_69 (by decide) ?_
          have hb := ih2 (n - (k + 1)) (by omega) (k + 1) rfl (by omega)
          simp only [w_exp_it2, if_pos c_22, if_pos c_38] at hb
          exact hb
  exact (lp2 (n - 0) 0 rfl (by omega))

theorem fr_w_exp {σ : pr_I} {n : Nat} {o : Nat} (hms : ∀ m ∈ ([7, 15, 17, 27] : List Nat), o ≠ m) : w_exp σ n o = σ o := by
  unfold w_exp
  simp only [List.mem_cons, List.not_mem_nil, or_false, forall_eq_or_imp, forall_eq] at hms
  rw [fr_w_exp_it2 (by simp only [List.mem_cons, List.not_mem_nil, or_false, forall_eq_or_imp, forall_eq]; omega)]

def w_end_it2 (σ : pr_I) (n : Nat) (nr : Nat) : Nat → pr_I
  | 0 => σ
  | k + 1 => (if ((w_end_it2 σ n nr k) 23 k) = (2 : Int32) then (if (σ 30 k) = (σ 0 7) then (w_settle (w_ra (w_end_it2 σ n nr k) n (nI k) (1 : Int32) (1 : Int32) (0 : Int32)) k (3 : Int32)) else (w_end_it2 σ n nr k)) else (w_end_it2 σ n nr k))
theorem fr_w_end_it2 {σ : pr_I} {n : Nat} {nr : Nat} {o : Nat} (hms : ∀ m ∈ ([7, 15, 17, 23, 25, 27] : List Nat), o ≠ m) : ∀ {k : Nat}, (w_end_it2 σ n nr k) o = σ o := by
  simp only [List.mem_cons, List.not_mem_nil, or_false, forall_eq_or_imp, forall_eq] at hms
  intro k
  induction k with
  | zero =>
    show σ o = σ o
    rfl
  | succ k ih =>
    by_cases c_23 : ((w_end_it2 σ n nr k) 23 k) = (2 : Int32)
    · refine (congrFun (congrArg (fun z : pr_I => z) (if_pos c_23)) o).trans ?_
      by_cases c_39 : (σ 30 k) = (σ 0 7)
      · refine (congrFun (congrArg (fun z : pr_I => z) (if_pos c_39)) o).trans ?_
        show (w_settle (w_ra (w_end_it2 σ n nr k) n (nI k) (1 : Int32) (1 : Int32) (0 : Int32)) k (3 : Int32)) o = σ o
        rw [fr_w_settle (by simp only [List.mem_cons, List.not_mem_nil, or_false, forall_eq_or_imp, forall_eq]; omega), fr_w_ra (by simp only [List.mem_cons, List.not_mem_nil, or_false, forall_eq_or_imp, forall_eq]; omega), ih]
      · refine (congrFun (congrArg (fun z : pr_I => z) (if_neg c_39)) o).trans ?_
        show (w_end_it2 σ n nr k) o = σ o
        rw [ih]
    · refine (congrFun (congrArg (fun z : pr_I => z) (if_neg c_23)) o).trans ?_
      show (w_end_it2 σ n nr k) o = σ o
      rw [ih]

def w_end (σ : pr_I) (n : Nat) (nr : Nat) : pr_I := (w_end_it2 σ n nr nr)
set_option maxRecDepth 100000 in
set_option maxHeartbeats 4000000 in
theorem c_w_end {g : pr_C} {l : Launch} (hl : l.stackTraces = false) {T : pr_T} {I : pr_I} {L : pr_L} {w : Nat} {σ : pr_I} {n : Nat} {nr : Nat} (hw : pr_W T w) (hn : σ 9 8 = nI n) (hn5 : n ≤ 500) (hB : ∀ t, t < n → vp_in (σ 10 t) 40 ∧ vp_in (σ 11 t) 24) (hnr : σ 18 17 = nI nr) (hnr4 : nr ≤ 40) : pr_M g l 5 0 0 mX6_endRequests [.ref w] T (ws_put I w σ) L (pr_R none T (ws_put I w (w_end σ n nr)) L) pr_no := by
  refine pr_ofG (by decide) rfl hl (Nat.le_of_ble_eq_true rfl) (fun X hA hX hXn hXt => ?_)
  subst hX
  show pr_G g X mX6_endRequests.2.2.1 _ 0 0 0 [.ref w, .null] [] T (ws_put I w σ) L
  refine pr_iconst hA (nI 0) dX6_endRequests_0 (by decide) ?_
  refine pr_istore_n (ls' := [_, _]) hA dX6_endRequests_1 (by decide) rfl ?_
  have lp2 : ∀ (j k : Nat), nr - k = j → k ≤ nr → pr_G g X mX6_endRequests.2.2.1 (pr_MQ g X (pr_R none T (ws_put I w (w_end σ n nr)) L) pr_no 0 0) 0 0 2 [.ref w, .int (nI k)] [] T (ws_put I w (w_end_it2 σ n nr k)) L := by
    intro j
    induction j using Nat.strongRecOn with | ind j ih2 =>
    intro k hj2 hk2
    refine pr_iload_n hA dX6_endRequests_2 rfl ?_
    refine pr_aload_n hA dX6_endRequests_3 rfl ?_
    refine pr_getR hA f_X6_28 rfl (wk_0 hw) (wf_0_2 hw) dX6_endRequests_4 ?_
    refine pr_getE (v := (nI nr)) hA f_X6_70 rfl (wk_18 hw) ((ws_val (by decide)).trans ((congrFun (fr_w_end_it2 (by decide)) _).trans hnr)) dX6_endRequests_7 ?_
    refine pr_icmp_ge hA 63 dX6_endRequests_10 (by decide) (fun c_10 => ?_) (fun c_10 => ?_)
    · have n_10 : nr ≤ k := (nI_leI (by omega) (by omega)).mp c_10
      have hex : nr = k := by omega
      subst hex
      exact pr_return hA rfl (Nat.zero_le _) (Nat.zero_le _) dX6_endRequests_63 ⟨rfl, rfl, rfl, rfl⟩
    · have n_10 : ¬ nr ≤ k := fun q => c_10 ((nI_leI (by omega) (by omega)).mpr q)
      refine pr_aload_n hA dX6_endRequests_13 rfl ?_
      refine pr_getR hA f_X6_28 rfl (wk_0 hw) (wf_0_2 hw) dX6_endRequests_14 ?_
      refine pr_getR hA f_X6_93 rfl (wk_18 hw) (wf_18_4 hw) dX6_endRequests_17 ?_
      refine pr_iload_n hA dX6_endRequests_20 rfl ?_
      refine pr_ialdN (v := ((w_end_it2 σ n nr k) 23 k)) hA (wk_23 hw) (by omega) (by decide) (ws_val (by decide)) dX6_endRequests_21 ?_
      refine pr_iconst hA (2) dX6_endRequests_22 (by decide) ?_
      refine pr_icmp_ne hA 57 dX6_endRequests_23 (by decide) (fun c_23 => ?_) (fun c_23 => ?_)
      · refine pr_iinc (ls' := [_, _]) hA (nI (k + 1)) dX6_endRequests_57 (by decide) rfl (nI_inc _) rfl ?_
        refine pr_goto hA 2 dX6_endRequests_60 (by decide) ?_
        have hb := ih2 (nr - (k + 1)) (by omega) (k + 1) rfl (by omega)
        simp only [w_end_it2, if_neg c_23] at hb
        exact hb
      · refine pr_aload_n hA dX6_endRequests_26 rfl ?_
        refine pr_getR hA f_X6_28 rfl (wk_0 hw) (wf_0_2 hw) dX6_endRequests_27 ?_
        refine pr_getR hA f_X6_191 rfl (wk_18 hw) (wf_18_11 hw) dX6_endRequests_30 ?_
        refine pr_iload_n hA dX6_endRequests_33 rfl ?_
        refine pr_ialdN (v := (σ 30 k)) hA (wk_30 hw) (by omega) (by decide) ((ws_val (by decide)).trans (congrFun (fr_w_end_it2 (by decide)) _)) dX6_endRequests_34 ?_
        refine pr_aload_n hA dX6_endRequests_35 rfl ?_
        refine pr_getE (v := (σ 0 7)) hA f_X6_51 rfl (wk_0 hw) (ws_val0.trans (congrFun (fr_w_end_it2 (by decide)) _)) dX6_endRequests_36 ?_
        refine pr_icmp_ne hA 57 dX6_endRequests_39 (by decide) (fun c_39 => ?_) (fun c_39 => ?_)
        · refine pr_iinc (ls' := [_, _]) hA (nI (k + 1)) dX6_endRequests_57 (by decide) rfl (nI_inc _) rfl ?_
          refine pr_goto hA 2 dX6_endRequests_60 (by decide) ?_
          have hb := ih2 (nr - (k + 1)) (by omega) (k + 1) rfl (by omega)
          simp only [w_end_it2, if_pos c_23, if_neg c_39] at hb
          exact hb
        · refine pr_aload_n hA dX6_endRequests_42 rfl ?_
          refine pr_iload_n hA dX6_endRequests_43 rfl ?_
          refine pr_iconst hA (1) dX6_endRequests_44 (by decide) ?_
          refine pr_iconst hA (1) dX6_endRequests_45 (by decide) ?_
          refine pr_iconst hA (0) dX6_endRequests_46 (by decide) ?_
          refine pr_callVi hA [.int (nI k), .int (1 : Int32), .int (1 : Int32), .int (0 : Int32)] (c_w_ra (pr_hl hA) hw ((congrFun (fr_w_end_it2 (by decide)) _).trans hn) (by omega) (fun t ht => ⟨vin_eq (congrFun (fr_w_end_it2 (by decide)) _) (hB t ht).1, vin_eq (congrFun (fr_w_end_it2 (by decide)) _) (hB t ht).2⟩)) v_X6_197 (wk_0 hw) (by decide) rfl rfl rfl (by decide) (Nat.zero_le _) (Nat.zero_le _) rfl (Nat.le_of_ble_eq_true rfl) dX6_endRequests_47 ?_
          refine pr_pop hA dX6_endRequests_50 rfl ?_
          refine pr_aload_n hA dX6_endRequests_51 rfl ?_
          refine pr_iload_n hA dX6_endRequests_52 rfl ?_
          refine pr_iconst hA (3) dX6_endRequests_53 (by decide) ?_
          refine pr_callVv hA [.int (nI k), .int (3 : Int32)] (c_w_settle (pr_hl hA) hw (by omega)) v_X6_123 (wk_0 hw) (by decide) rfl rfl rfl (by decide) (Nat.zero_le _) (Nat.zero_le _) rfl (Nat.le_of_ble_eq_true rfl) dX6_endRequests_54 ?_
          refine pr_iinc (ls' := [_, _]) hA (nI (k + 1)) dX6_endRequests_57 (by decide) rfl (nI_inc _) rfl ?_
          refine pr_goto hA 2 dX6_endRequests_60 (by decide) ?_
          have hb := ih2 (nr - (k + 1)) (by omega) (k + 1) rfl (by omega)
          simp only [w_end_it2, if_pos c_23, if_pos c_39] at hb
          exact hb
  exact (lp2 (nr - 0) 0 rfl (by omega))

theorem fr_w_end {σ : pr_I} {n : Nat} {nr : Nat} {o : Nat} (hms : ∀ m ∈ ([7, 15, 17, 23, 25, 27] : List Nat), o ≠ m) : w_end σ n nr o = σ o := by
  unfold w_end
  simp only [List.mem_cons, List.not_mem_nil, or_false, forall_eq_or_imp, forall_eq] at hms
  rw [fr_w_end_it2 (by simp only [List.mem_cons, List.not_mem_nil, or_false, forall_eq_or_imp, forall_eq]; omega)]

def w_close_it21 (σ : pr_I) (n : Nat) (nr : Nat) (lk : Nat) : Nat → pr_I × Int32
  | 0 => ((pr_up σ 1 7 ((σ 1 7) &&& (((1 : Int32) <<< ((nI lk) &&& 31)) ^^^ ((-1) : Int32)))), (0 : Int32))
  | k + 1 => (if (tk_has (w_close_it21 σ n nr lk k).1 (nI k) (nI lk) n 0) = 0 then ((w_close_it21 σ n nr lk k).1, ((w_close_it21 σ n nr lk k).2)) else (if ((w_close_it21 σ n nr lk k).1 23 k) = (2 : Int32) then ((pr_up (w_settle (w_ra (w_close_it21 σ n nr lk k).1 n (nI k) (((w_close_it21 σ n nr lk k).1 30 k) - (σ 0 7)) (σ 22 k) (100 : Int32)) k (6 : Int32)) 30 k (σ 0 7)), (((w_close_it21 σ n nr lk k).2) + Int32.ofInt (1))) else ((w_fail (w_close_it21 σ n nr lk k).1 n k (nI lk)), (((w_close_it21 σ n nr lk k).2) + Int32.ofInt (1)))))
theorem fr_w_close_it21 {σ : pr_I} {n : Nat} {nr : Nat} {lk : Nat} {o : Nat} (hms : ∀ m ∈ ([7, 8, 15, 17, 23, 24, 25, 27, 28, 30, 31] : List Nat), o ≠ m) : ∀ {k : Nat}, (w_close_it21 σ n nr lk k).1 o = (pr_up σ 1 7 ((σ 1 7) &&& (((1 : Int32) <<< ((nI lk) &&& 31)) ^^^ ((-1) : Int32)))) o := by
  simp only [List.mem_cons, List.not_mem_nil, or_false, forall_eq_or_imp, forall_eq] at hms
  intro k
  induction k with
  | zero =>
    show (pr_up σ 1 7 ((σ 1 7) &&& (((1 : Int32) <<< ((nI lk) &&& 31)) ^^^ ((-1) : Int32)))) o = (pr_up σ 1 7 ((σ 1 7) &&& (((1 : Int32) <<< ((nI lk) &&& 31)) ^^^ ((-1) : Int32)))) o
    rfl
  | succ k ih =>
    by_cases c_41 : (tk_has (w_close_it21 σ n nr lk k).1 (nI k) (nI lk) n 0) = 0
    · refine (congrFun (congrArg (fun z : pr_I × Int32 => z.1) (if_pos c_41)) o).trans ?_
      show (w_close_it21 σ n nr lk k).1 o = (pr_up σ 1 7 ((σ 1 7) &&& (((1 : Int32) <<< ((nI lk) &&& 31)) ^^^ ((-1) : Int32)))) o
      rw [ih]
    · refine (congrFun (congrArg (fun z : pr_I × Int32 => z.1) (if_neg c_41)) o).trans ?_
      by_cases c_57 : ((w_close_it21 σ n nr lk k).1 23 k) = (2 : Int32)
      · refine (congrFun (congrArg (fun z : pr_I × Int32 => z.1) (if_pos c_57)) o).trans ?_
        show (pr_up (w_settle (w_ra (w_close_it21 σ n nr lk k).1 n (nI k) (((w_close_it21 σ n nr lk k).1 30 k) - (σ 0 7)) (σ 22 k) (100 : Int32)) k (6 : Int32)) 30 k (σ 0 7)) o = (pr_up σ 1 7 ((σ 1 7) &&& (((1 : Int32) <<< ((nI lk) &&& 31)) ^^^ ((-1) : Int32)))) o
        rw [pr_up_ne (by omega), fr_w_settle (by simp only [List.mem_cons, List.not_mem_nil, or_false, forall_eq_or_imp, forall_eq]; omega), fr_w_ra (by simp only [List.mem_cons, List.not_mem_nil, or_false, forall_eq_or_imp, forall_eq]; omega), ih]
      · refine (congrFun (congrArg (fun z : pr_I × Int32 => z.1) (if_neg c_57)) o).trans ?_
        show (w_fail (w_close_it21 σ n nr lk k).1 n k (nI lk)) o = (pr_up σ 1 7 ((σ 1 7) &&& (((1 : Int32) <<< ((nI lk) &&& 31)) ^^^ ((-1) : Int32)))) o
        rw [fr_w_fail (by simp only [List.mem_cons, List.not_mem_nil, or_false, forall_eq_or_imp, forall_eq]; omega), ih]

def w_close_r (σ : pr_I) (n : Nat) (nr : Nat) (lk : Nat) : Int32 := ((w_close_it21 σ n nr lk nr).2)
def w_close (σ : pr_I) (n : Nat) (nr : Nat) (lk : Nat) : pr_I := (w_close_it21 σ n nr lk nr).1
set_option maxRecDepth 100000 in
set_option maxHeartbeats 4000000 in
theorem c_w_close {g : pr_C} {l : Launch} (hl : l.stackTraces = false) {T : pr_T} {I : pr_I} {L : pr_L} {w : Nat} {σ : pr_I} {n : Nat} {nr : Nat} {lk : Nat} (hw : pr_W T w) (hn : σ 9 8 = nI n) (hn5 : n ≤ 500) (hB : ∀ t, t < n → vp_in (σ 10 t) 40 ∧ vp_in (σ 11 t) 24) (hnr : σ 18 17 = nI nr) (hnr4 : nr ≤ 40) (hl24 : lk < 24) : pr_M g l 6 0 0 mX6_closeLink [.ref w, .int (nI lk)] T (ws_put I w σ) L (pr_R (some (.int (w_close_r σ n nr lk))) T (ws_put I w (w_close σ n nr lk)) L) pr_no := by
  refine pr_ofG (by decide) rfl hl (Nat.le_of_ble_eq_true rfl) (fun X hA hX hXn hXt => ?_)
  subst hX
  show pr_G g X mX6_closeLink.2.2.1 _ 0 0 0 [.ref w, .int (nI lk), .null, .null] [] T (ws_put I w σ) L
  refine pr_iconst hA (0) dX6_closeLink_0 (by decide) ?_
  refine pr_istore_n (ls' := [_, _, _, _]) hA dX6_closeLink_1 (by decide) rfl ?_
  refine pr_aload_n hA dX6_closeLink_2 rfl ?_
  refine pr_getR hA f_X6_12 rfl (wk_0 hw) (wf_0_0 hw) dX6_closeLink_3 ?_
  refine pr_dup hA dX6_closeLink_6 rfl ?_
  refine pr_getE (v := (σ 1 7)) hA f_X6_66 rfl (wk_1 hw) (ws_val (by decide)) dX6_closeLink_7 ?_
  refine pr_iconst hA (1) dX6_closeLink_10 (by decide) ?_
  refine pr_iload_n hA dX6_closeLink_11 rfl ?_
  refine pr_ishl hA dX6_closeLink_12 ?_
  refine pr_iconst hA ((-1)) dX6_closeLink_13 (by decide) ?_
  refine pr_ixor hA dX6_closeLink_14 ?_
  refine pr_iand hA dX6_closeLink_15 ?_
  refine pr_putE (I' := (ws_put I w (pr_up σ 1 7 ((σ 1 7) &&& (((1 : Int32) <<< ((nI lk) &&& 31)) ^^^ ((-1) : Int32)))))) hA f_X6_66 rfl (wk_1 hw) (ws_up (by decide)) dX6_closeLink_16 ?_
  refine pr_iconst hA (nI 0) dX6_closeLink_19 (by decide) ?_
  refine pr_istore_n (ls' := [_, _, _, _]) hA dX6_closeLink_20 (by decide) rfl ?_
  have lp21 : ∀ (j k : Nat), nr - k = j → k ≤ nr → pr_G g X mX6_closeLink.2.2.1 (pr_MQ g X (pr_R (some (.int (w_close_r σ n nr lk))) T (ws_put I w (w_close σ n nr lk)) L) pr_no 0 0) 0 0 21 [.ref w, .int (nI lk), .int ((w_close_it21 σ n nr lk k).2), .int (nI k)] [] T (ws_put I w (w_close_it21 σ n nr lk k).1) L := by
    intro j
    induction j using Nat.strongRecOn with | ind j ih21 =>
    intro k hj21 hk21
    refine pr_iload_n hA dX6_closeLink_21 rfl ?_
    refine pr_aload_n hA dX6_closeLink_22 rfl ?_
    refine pr_getR hA f_X6_28 rfl (wk_0 hw) (wf_0_2 hw) dX6_closeLink_23 ?_
    refine pr_getE (v := (nI nr)) hA f_X6_70 rfl (wk_18 hw) ((ws_val (by decide)).trans ((congrFun (fr_w_close_it21 (by decide)) _).trans ((pr_upv (by decide)).trans hnr))) dX6_closeLink_26 ?_
    refine pr_icmp_ge hA 126 dX6_closeLink_29 (by decide) (fun c_29 => ?_) (fun c_29 => ?_)
    · have n_29 : nr ≤ k := (nI_leI (by omega) (by omega)).mp c_29
      have hex : nr = k := by omega
      subst hex
      refine pr_iload_n hA dX6_closeLink_126 rfl ?_
      exact pr_ireturn hA rfl rfl (Nat.zero_le _) (Nat.zero_le _) dX6_closeLink_127 ⟨rfl, rfl, rfl, rfl⟩
    · have n_29 : ¬ nr ≤ k := fun q => c_29 ((nI_leI (by omega) (by omega)).mpr q)
      refine pr_aload_n hA dX6_closeLink_32 rfl ?_
      refine pr_getR hA f_X6_21 rfl (wk_0 hw) (wf_0_1 hw) dX6_closeLink_33 ?_
      refine pr_iload_n hA dX6_closeLink_36 rfl ?_
      refine pr_iload_n hA dX6_closeLink_37 rfl ?_
      refine pr_callVi hA [.int (nI k), .int (nI lk)] (c_hasPromiseOn (pr_hl hA) ((congrFun (fr_w_close_it21 (by decide)) _).trans ((pr_upv (by decide)).trans hn)) (by omega) hw) v_X6_222 (wk_9 hw) (by decide) rfl rfl rfl (by decide) (Nat.zero_le _) (Nat.zero_le _) rfl (Nat.le_of_ble_eq_true rfl) dX6_closeLink_38 ?_
      refine pr_if_eq hA 120 dX6_closeLink_41 (by decide) (fun c_41 => ?_) (fun c_41 => ?_)
      · refine pr_iinc (ls' := [_, _, _, _]) hA (nI (k + 1)) dX6_closeLink_120 (by decide) rfl (nI_inc _) rfl ?_
        refine pr_goto hA 21 dX6_closeLink_123 (by decide) ?_
        have hb := ih21 (nr - (k + 1)) (by omega) (k + 1) rfl (by omega)
        simp only [w_close_it21, if_pos c_41] at hb
        exact hb
      · refine pr_iinc (ls' := [_, _, _, _]) hA (((w_close_it21 σ n nr lk k).2) + Int32.ofInt (1)) dX6_closeLink_44 (by decide) rfl rfl rfl ?_
        refine pr_aload_n hA dX6_closeLink_47 rfl ?_
        refine pr_getR hA f_X6_28 rfl (wk_0 hw) (wf_0_2 hw) dX6_closeLink_48 ?_
        refine pr_getR hA f_X6_93 rfl (wk_18 hw) (wf_18_4 hw) dX6_closeLink_51 ?_
        refine pr_iload_n hA dX6_closeLink_54 rfl ?_
        refine pr_ialdN (v := ((w_close_it21 σ n nr lk k).1 23 k)) hA (wk_23 hw) (by omega) (by decide) (ws_val (by decide)) dX6_closeLink_55 ?_
        refine pr_iconst hA (2) dX6_closeLink_56 (by decide) ?_
        refine pr_icmp_ne hA 114 dX6_closeLink_57 (by decide) (fun c_57 => ?_) (fun c_57 => ?_)
        · refine pr_aload_n hA dX6_closeLink_114 rfl ?_
          refine pr_iload_n hA dX6_closeLink_115 rfl ?_
          refine pr_iload_n hA dX6_closeLink_116 rfl ?_
          refine pr_callVv hA [.int (nI k), .int (nI lk)] (c_w_fail (pr_hl hA) hw ((congrFun (fr_w_close_it21 (by decide)) _).trans ((pr_upv (by decide)).trans hn)) (by omega) (fun t ht => ⟨vin_eq ((congrFun (fr_w_close_it21 (by decide)) _).trans (pr_upv (by decide))) (hB t ht).1, vin_eq ((congrFun (fr_w_close_it21 (by decide)) _).trans (pr_upv (by decide))) (hB t ht).2⟩) (by omega) (by first | assumption | exact nI_vin (by omega) (by decide) | omega)) v_X6_106 (wk_0 hw) (by decide) rfl rfl rfl (by decide) (Nat.zero_le _) (Nat.zero_le _) rfl (Nat.le_of_ble_eq_true rfl) dX6_closeLink_117 ?_
          refine pr_iinc (ls' := [_, _, _, _]) hA (nI (k + 1)) dX6_closeLink_120 (by decide) rfl (nI_inc _) rfl ?_
          refine pr_goto hA 21 dX6_closeLink_123 (by decide) ?_
          have hb := ih21 (nr - (k + 1)) (by omega) (k + 1) rfl (by omega)
          simp only [w_close_it21, if_neg c_41, if_neg c_57] at hb
          exact hb
        · refine pr_aload_n hA dX6_closeLink_60 rfl ?_
          refine pr_iload_n hA dX6_closeLink_61 rfl ?_
          refine pr_aload_n hA dX6_closeLink_62 rfl ?_
          refine pr_getR hA f_X6_28 rfl (wk_0 hw) (wf_0_2 hw) dX6_closeLink_63 ?_
          refine pr_getR hA f_X6_191 rfl (wk_18 hw) (wf_18_11 hw) dX6_closeLink_66 ?_
          refine pr_iload_n hA dX6_closeLink_69 rfl ?_
          refine pr_ialdN (v := ((w_close_it21 σ n nr lk k).1 30 k)) hA (wk_30 hw) (by omega) (by decide) (ws_val (by decide)) dX6_closeLink_70 ?_
          refine pr_aload_n hA dX6_closeLink_71 rfl ?_
          refine pr_getE (v := (σ 0 7)) hA f_X6_51 rfl (wk_0 hw) (ws_val0.trans ((congrFun (fr_w_close_it21 (by decide)) _).trans (pr_upv (by decide)))) dX6_closeLink_72 ?_
          refine pr_isub hA dX6_closeLink_75 ?_
          refine pr_aload_n hA dX6_closeLink_76 rfl ?_
          refine pr_getR hA f_X6_28 rfl (wk_0 hw) (wf_0_2 hw) dX6_closeLink_77 ?_
          refine pr_getR hA f_X6_194 rfl (wk_18 hw) (wf_18_3 hw) dX6_closeLink_80 ?_
          refine pr_iload_n hA dX6_closeLink_83 rfl ?_
          refine pr_ialdN (v := (σ 22 k)) hA (wk_22 hw) (by omega) (by decide) ((ws_val (by decide)).trans ((congrFun (fr_w_close_it21 (by decide)) _).trans (pr_upv (by decide)))) dX6_closeLink_84 ?_
          refine pr_bipush hA (100) dX6_closeLink_85 (by decide) ?_
          refine pr_callVi hA [.int (nI k), .int (((w_close_it21 σ n nr lk k).1 30 k) - (σ 0 7)), .int (σ 22 k), .int (100 : Int32)] (c_w_ra (pr_hl hA) hw ((congrFun (fr_w_close_it21 (by decide)) _).trans ((pr_upv (by decide)).trans hn)) (by omega) (fun t ht => ⟨vin_eq ((congrFun (fr_w_close_it21 (by decide)) _).trans (pr_upv (by decide))) (hB t ht).1, vin_eq ((congrFun (fr_w_close_it21 (by decide)) _).trans (pr_upv (by decide))) (hB t ht).2⟩)) v_X6_197 (wk_0 hw) (by decide) rfl rfl rfl (by decide) (Nat.zero_le _) (Nat.zero_le _) rfl (Nat.le_of_ble_eq_true rfl) dX6_closeLink_87 ?_
          refine pr_pop hA dX6_closeLink_90 rfl ?_
          refine pr_aload_n hA dX6_closeLink_91 rfl ?_
          refine pr_iload_n hA dX6_closeLink_92 rfl ?_
          refine pr_bipush hA (6) dX6_closeLink_93 (by decide) ?_
          refine pr_callVv hA [.int (nI k), .int (6 : Int32)] (c_w_settle (pr_hl hA) hw (by omega)) v_X6_123 (wk_0 hw) (by decide) rfl rfl rfl (by decide) (Nat.zero_le _) (Nat.zero_le _) rfl (Nat.le_of_ble_eq_true rfl) dX6_closeLink_95 ?_
          refine pr_aload_n hA dX6_closeLink_98 rfl ?_
          refine pr_getR hA f_X6_28 rfl (wk_0 hw) (wf_0_2 hw) dX6_closeLink_99 ?_
          refine pr_getR hA f_X6_191 rfl (wk_18 hw) (wf_18_11 hw) dX6_closeLink_102 ?_
          refine pr_iload_n hA dX6_closeLink_105 rfl ?_
          refine pr_aload_n hA dX6_closeLink_106 rfl ?_
          refine pr_getE (v := (σ 0 7)) hA f_X6_51 rfl (wk_0 hw) (ws_val0.trans ((congrFun (fr_w_settle (by decide)) _).trans ((congrFun (fr_w_ra (by decide)) _).trans ((congrFun (fr_w_close_it21 (by decide)) _).trans (pr_upv (by decide)))))) dX6_closeLink_107 ?_
          refine pr_iastN (I' := (ws_put I w (pr_up (w_settle (w_ra (w_close_it21 σ n nr lk k).1 n (nI k) (((w_close_it21 σ n nr lk k).1 30 k) - (σ 0 7)) (σ 22 k) (100 : Int32)) k (6 : Int32)) 30 k (σ 0 7)))) hA (wk_30 hw) (by omega) (by decide) (ws_up (by decide)) dX6_closeLink_110 ?_
          refine pr_goto hA 120 dX6_closeLink_111 (by decide) ?_
          refine pr_iinc (ls' := [_, _, _, _]) hA (nI (k + 1)) dX6_closeLink_120 (by decide) rfl (nI_inc _) rfl ?_
          refine pr_goto hA 21 dX6_closeLink_123 (by decide) ?_
          have hb := ih21 (nr - (k + 1)) (by omega) (k + 1) rfl (by omega)
          simp only [w_close_it21, if_neg c_41, if_pos c_57] at hb
          exact hb
  exact (lp21 (nr - 0) 0 rfl (by omega))

theorem fr_w_close {σ : pr_I} {n : Nat} {nr : Nat} {lk : Nat} {o : Nat} (hms : ∀ m ∈ ([1, 7, 8, 15, 17, 23, 24, 25, 27, 28, 30, 31] : List Nat), o ≠ m) : w_close σ n nr lk o = σ o := by
  unfold w_close
  simp only [List.mem_cons, List.not_mem_nil, or_false, forall_eq_or_imp, forall_eq] at hms
  rw [fr_w_close_it21 (by simp only [List.mem_cons, List.not_mem_nil, or_false, forall_eq_or_imp, forall_eq]; omega), pr_up_ne (by omega)]

def w_next_it10 (σ : pr_I) (n : Nat) (nr : Nat) : Nat → Int32
  | 0 => (tk_fe σ n)
  | k + 1 => (if (if (if (σ 23 k) = (2 : Int32) then (1 : Int32) else (0 : Int32)) = 0 then (σ 25 k) else (σ 30 k)) = ((-1) : Int32) then (w_next_it10 σ n nr k) else (if (w_next_it10 σ n nr k) = ((-1) : Int32) then (if (if (σ 23 k) = (2 : Int32) then (1 : Int32) else (0 : Int32)) = 0 then (σ 25 k) else (σ 30 k)) else (if (w_next_it10 σ n nr k) ≤ (if (if (σ 23 k) = (2 : Int32) then (1 : Int32) else (0 : Int32)) = 0 then (σ 25 k) else (σ 30 k)) then (w_next_it10 σ n nr k) else (if (if (σ 23 k) = (2 : Int32) then (1 : Int32) else (0 : Int32)) = 0 then (σ 25 k) else (σ 30 k)))))
def w_next_r (σ : pr_I) (n : Nat) (nr : Nat) : Int32 := (w_next_it10 σ n nr nr)
set_option maxRecDepth 100000 in
set_option maxHeartbeats 4000000 in
theorem c_w_next {g : pr_C} {l : Launch} (hl : l.stackTraces = false) {T : pr_T} {I : pr_I} {L : pr_L} {w : Nat} {σ : pr_I} {n : Nat} {nr : Nat} (hw : pr_W T w) (hn : σ 9 8 = nI n) (hn5 : n ≤ 500) (hnr : σ 18 17 = nI nr) (hnr4 : nr ≤ 40) : pr_M g l 3 0 0 mX6_nextHappening [.ref w] T (ws_put I w σ) L (pr_R (some (.int (w_next_r σ n nr))) T (ws_put I w σ) L) pr_no := by
  refine pr_ofG (by decide) rfl hl (Nat.le_of_ble_eq_true rfl) (fun X hA hX hXn hXt => ?_)
  subst hX
  show pr_G g X mX6_nextHappening.2.2.1 _ 0 0 0 [.ref w, .null, .null, .null, .null] [] T (ws_put I w σ) L
  refine pr_aload_n hA dX6_nextHappening_0 rfl ?_
  refine pr_getR hA f_X6_21 rfl (wk_0 hw) (wf_0_1 hw) dX6_nextHappening_1 ?_
  refine pr_callVi hA [] (c_firstExpiry (pr_hl hA) hn (by omega) hw) v_X6_226 (wk_9 hw) (by decide) rfl rfl rfl (by decide) (Nat.zero_le _) (Nat.zero_le _) rfl (Nat.le_of_ble_eq_true rfl) dX6_nextHappening_4 ?_
  refine pr_istore_n (ls' := [_, _, _, _, _]) hA dX6_nextHappening_7 (by decide) rfl ?_
  refine pr_iconst hA (nI 0) dX6_nextHappening_8 (by decide) ?_
  refine pr_istore_n (ls' := [_, _, _, _, _]) hA dX6_nextHappening_9 (by decide) rfl ?_
  have lp10 : ∀ (j k : Nat), nr - k = j → k ≤ nr → pr_G g X mX6_nextHappening.2.2.1 (pr_MQ g X (pr_R (some (.int (w_next_r σ n nr))) T (ws_put I w σ) L) pr_no 0 0) 0 0 10 [.ref w, .int (w_next_it10 σ n nr k), .int (nI k), .null, .null] [] T (ws_put I w σ) L := by
    intro j
    induction j using Nat.strongRecOn with | ind j ih10 =>
    intro k hj10 hk10
    refine pr_iload_n hA dX6_nextHappening_10 rfl ?_
    refine pr_aload_n hA dX6_nextHappening_11 rfl ?_
    refine pr_getR hA f_X6_28 rfl (wk_0 hw) (wf_0_2 hw) dX6_nextHappening_12 ?_
    refine pr_getE (v := (nI nr)) hA f_X6_70 rfl (wk_18 hw) ((ws_val (by decide)).trans hnr) dX6_nextHappening_15 ?_
    refine pr_icmp_ge hA 93 dX6_nextHappening_18 (by decide) (fun c_18 => ?_) (fun c_18 => ?_)
    · have n_18 : nr ≤ k := (nI_leI (by omega) (by omega)).mp c_18
      have hex : nr = k := by omega
      subst hex
      refine pr_iload_n hA dX6_nextHappening_93 rfl ?_
      exact pr_ireturn hA rfl rfl (Nat.zero_le _) (Nat.zero_le _) dX6_nextHappening_94 ⟨rfl, rfl, rfl, rfl⟩
    · have n_18 : ¬ nr ≤ k := fun q => c_18 ((nI_leI (by omega) (by omega)).mpr q)
      refine pr_aload_n hA dX6_nextHappening_21 rfl ?_
      refine pr_getR hA f_X6_28 rfl (wk_0 hw) (wf_0_2 hw) dX6_nextHappening_22 ?_
      refine pr_getR hA f_X6_93 rfl (wk_18 hw) (wf_18_4 hw) dX6_nextHappening_25 ?_
      refine pr_iload_n hA dX6_nextHappening_28 rfl ?_
      refine pr_ialdN (v := (σ 23 k)) hA (wk_23 hw) (by omega) (by decide) (ws_val (by decide)) dX6_nextHappening_29 ?_
      refine pr_iconst hA (2) dX6_nextHappening_30 (by decide) ?_
      refine pr_join (c := (σ 23 k) = (2 : Int32)) (J := 39) (st := []) (1 : Int32) (0 : Int32) inferInstance (fun kt kf => ?_) ?_
      · refine pr_icmp_ne hA 38 dX6_nextHappening_31 (by decide) (fun c_31 => ?_) (fun c_31 => ?_)
        · refine pr_iconst hA (0) dX6_nextHappening_38 (by decide) ?_
          exact kf c_31
        · refine pr_iconst hA (1) dX6_nextHappening_34 (by decide) ?_
          refine pr_goto hA 39 dX6_nextHappening_35 (by decide) ?_
          exact kt c_31
      · refine pr_istore_n (ls' := [_, _, _, _, _]) hA dX6_nextHappening_39 (by decide) rfl ?_
        refine pr_iload_n hA dX6_nextHappening_40 rfl ?_
        refine pr_join (c := (if (σ 23 k) = (2 : Int32) then (1 : Int32) else (0 : Int32)) = 0) (J := 65) (st := []) (σ 25 k) (σ 30 k) inferInstance (fun kt kf => ?_) ?_
        · refine pr_if_eq hA 56 dX6_nextHappening_41 (by decide) (fun c_41 => ?_) (fun c_41 => ?_)
          · refine pr_aload_n hA dX6_nextHappening_56 rfl ?_
            refine pr_getR hA f_X6_28 rfl (wk_0 hw) (wf_0_2 hw) dX6_nextHappening_57 ?_
            refine pr_getR hA f_X6_90 rfl (wk_18 hw) (wf_18_6 hw) dX6_nextHappening_60 ?_
            refine pr_iload_n hA dX6_nextHappening_63 rfl ?_
            refine pr_ialdN (v := (σ 25 k)) hA (wk_25 hw) (by omega) (by decide) (ws_val (by decide)) dX6_nextHappening_64 ?_
            exact kt c_41
          · refine pr_aload_n hA dX6_nextHappening_44 rfl ?_
            refine pr_getR hA f_X6_28 rfl (wk_0 hw) (wf_0_2 hw) dX6_nextHappening_45 ?_
            refine pr_getR hA f_X6_191 rfl (wk_18 hw) (wf_18_11 hw) dX6_nextHappening_48 ?_
            refine pr_iload_n hA dX6_nextHappening_51 rfl ?_
            refine pr_ialdN (v := (σ 30 k)) hA (wk_30 hw) (by omega) (by decide) (ws_val (by decide)) dX6_nextHappening_52 ?_
            refine pr_goto hA 65 dX6_nextHappening_53 (by decide) ?_
            exact kf c_41
        · refine pr_istore (ls' := [_, _, _, _, _]) hA dX6_nextHappening_65 (by decide) rfl ?_
          refine pr_iload hA dX6_nextHappening_67 rfl ?_
          refine pr_iconst hA ((-1)) dX6_nextHappening_69 (by decide) ?_
          refine pr_icmp_eq hA 87 dX6_nextHappening_70 (by decide) (fun c_70 => ?_) (fun c_70 => ?_)
          · refine pr_iinc (ls' := [_, _, _, _, _]) hA (nI (k + 1)) dX6_nextHappening_87 (by decide) rfl (nI_inc _) rfl ?_
            refine pr_goto hA 10 dX6_nextHappening_90 (by decide) ?_
            have hb := ih10 (nr - (k + 1)) (by omega) (k + 1) rfl (by omega)
            simp only [w_next_it10, if_pos c_70] at hb
            exact pr_lessL (ls' := [.ref w, .int (w_next_it10 σ n nr k), .int (nI (k + 1)), .null, .null]) ⟨.inr rfl, .inr rfl, .inr rfl, .inl rfl, .inl rfl, trivial⟩ hb
          · refine pr_iload_n hA dX6_nextHappening_73 rfl ?_
            refine pr_iconst hA ((-1)) dX6_nextHappening_74 (by decide) ?_
            refine pr_icmp_eq hA 84 dX6_nextHappening_75 (by decide) (fun c_75 => ?_) (fun c_75 => ?_)
            · refine pr_iload hA dX6_nextHappening_84 rfl ?_
              refine pr_istore_n (ls' := [_, _, _, _, _]) hA dX6_nextHappening_86 (by decide) rfl ?_
              refine pr_iinc (ls' := [_, _, _, _, _]) hA (nI (k + 1)) dX6_nextHappening_87 (by decide) rfl (nI_inc _) rfl ?_
              refine pr_goto hA 10 dX6_nextHappening_90 (by decide) ?_
              have hb := ih10 (nr - (k + 1)) (by omega) (k + 1) rfl (by omega)
              simp only [w_next_it10, if_neg c_70, if_pos c_75] at hb
              exact pr_lessL (ls' := [.ref w, .int (if (if (σ 23 k) = (2 : Int32) then (1 : Int32) else (0 : Int32)) = 0 then (σ 25 k) else (σ 30 k)), .int (nI (k + 1)), .null, .null]) ⟨.inr rfl, .inr rfl, .inr rfl, .inl rfl, .inl rfl, trivial⟩ hb
            · refine pr_iload hA dX6_nextHappening_78 rfl ?_
              refine pr_iload_n hA dX6_nextHappening_80 rfl ?_
              refine pr_icmp_ge hA 87 dX6_nextHappening_81 (by decide) (fun c_81 => ?_) (fun c_81 => ?_)
              · refine pr_iinc (ls' := [_, _, _, _, _]) hA (nI (k + 1)) dX6_nextHappening_87 (by decide) rfl (nI_inc _) rfl ?_
                refine pr_goto hA 10 dX6_nextHappening_90 (by decide) ?_
                have hb := ih10 (nr - (k + 1)) (by omega) (k + 1) rfl (by omega)
                simp only [w_next_it10, if_neg c_70, if_neg c_75, if_pos c_81] at hb
                exact pr_lessL (ls' := [.ref w, .int (w_next_it10 σ n nr k), .int (nI (k + 1)), .null, .null]) ⟨.inr rfl, .inr rfl, .inr rfl, .inl rfl, .inl rfl, trivial⟩ hb
              · refine pr_iload hA dX6_nextHappening_84 rfl ?_
                refine pr_istore_n (ls' := [_, _, _, _, _]) hA dX6_nextHappening_86 (by decide) rfl ?_
                refine pr_iinc (ls' := [_, _, _, _, _]) hA (nI (k + 1)) dX6_nextHappening_87 (by decide) rfl (nI_inc _) rfl ?_
                refine pr_goto hA 10 dX6_nextHappening_90 (by decide) ?_
                have hb := ih10 (nr - (k + 1)) (by omega) (k + 1) rfl (by omega)
                simp only [w_next_it10, if_neg c_70, if_neg c_75, if_neg c_81] at hb
                exact pr_lessL (ls' := [.ref w, .int (if (if (σ 23 k) = (2 : Int32) then (1 : Int32) else (0 : Int32)) = 0 then (σ 25 k) else (σ 30 k)), .int (nI (k + 1)), .null, .null]) ⟨.inr rfl, .inr rfl, .inr rfl, .inl rfl, .inl rfl, trivial⟩ hb
  exact (lp10 (nr - 0) 0 rfl (by omega))

