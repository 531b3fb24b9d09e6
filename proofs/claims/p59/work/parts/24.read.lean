/-! READING A TEXT INTO A WORLD -/
def ndn (σ : pr_I) : Nat := (σ 0 6).toNatClampNeg
theorem wI_nn {σ : pr_I} (h : wI σ) : σ 0 6 = nI (ndn σ) := vp_nI (h 0 6 13 rfl) (by decide)
theorem wI_nn12 {σ : pr_I} (h : wI σ) : ndn σ ≤ 12 := Nat.le_of_lt_succ (vp_in_lt (h 0 6 13 rfl))
def lr_up (ν : Nat → Int64) (k : Nat) (v : Int64) : Nat → Int64 := fun j => if j = k then v else ν j
theorem lr_upl {L : pr_L} {a k : Nat} {ν : Nat → Int64} {v : Int64} : pr_upl (pr_rowl L a ν) a k v = pr_rowl L a (lr_up ν k v) := by
  funext b j
  unfold pr_upl pr_rowl lr_up
  by_cases h : b = a <;> simp [h]
theorem lr_row {L : pr_L} {a : Nat} {ν : Nat → Int64} : pr_rowl L a ν a = ν := pr_rowl_eq
theorem lr_self {L : pr_L} {a : Nat} : pr_rowl L a (L a) = L := by funext b; unfold pr_rowl; split <;> simp [*]
theorem lr_two {L : pr_L} {a : Nat} {ν μ : Nat → Int64} : pr_rowl (pr_rowl L a ν) a μ = pr_rowl L a μ := by funext b; unfold pr_rowl; split <;> rfl
noncomputable def nm_an (ν : Nat → Int64) (nn : Nat) (q : Int64) : Nat → Int64 := if nI 12 ≤ nI nn then ν else lr_up ν nn q
theorem c_w_anE {g : pr_C} {l : Launch} (hl : l.stackTraces = false) {T : pr_T} {I : pr_I} {L : pr_L} {w : Nat} {σ : pr_I} {nn : Nat} {q : Int64} {ν : Nat → Int64} (hw : pr_W T w) (hnn : σ 0 6 = nI nn) (hnn12 : nn ≤ 12) : pr_M g l 1 0 0 mX6_addNode [.ref w, .long q] T (ws_put I w σ) (pr_rowl L (w + 120) ν) (pr_R none T (ws_put I w (w_an σ nn q)) (pr_rowl L (w + 120) (nm_an ν nn q))) pr_no := by
  have h := c_w_an (I := I) (L := pr_rowl L (w + 120) ν) (q := q) hl (g := g) hw hnn hnn12
  have e : (if nI 12 ≤ nI nn then pr_rowl L (w + 120) ν else pr_upl (pr_rowl L (w + 120) ν) (w + 120) nn q) = pr_rowl L (w + 120) (nm_an ν nn q) := by
    unfold nm_an; split
    · rfl
    · rw [lr_upl]
  rw [e] at h; exact h
theorem w_nw_rl_in {σ : pr_I} {ν : Nat → Int64} {nn : Nat} {q : Int64} (h12 : nn ≤ 12) : ∀ (j k : Nat), nn + 1 - k = j → k ≤ nn → w_nw_rl2 σ ν nn q j k = -1 ∨ ∃ i, i < nn ∧ w_nw_rl2 σ ν nn q j k = nI i
  | 0, k, hj, hk => by omega
  | j + 1, k, hj, hk => by
    have ih := fun h : k + 1 ≤ nn => w_nw_rl_in (σ := σ) (ν := ν) (q := q) h12 j (k + 1) (by omega) h
    simp only [w_nw_rl2]
    by_cases c : nI nn ≤ nI k
    · rw [if_pos c]; exact Or.inl rfl
    · have hlt : k < nn := by
        rcases Nat.lt_or_ge k nn with z | z
        · exact z
        · exact absurd ((nI_leI (by omega) (by omega)).mpr z) c
      rw [if_neg c]
      split <;> first | exact ih hlt | exact Or.inr ⟨k, hlt, rfl⟩
theorem w_nw_in {σ : pr_I} {ν : Nat → Int64} {nn : Nat} {q : Int64} (h12 : nn ≤ 12) (h : w_nw_r σ ν nn q ≠ -1) : vp_in (w_nw_r σ ν nn q) 12 := by
  rcases w_nw_rl_in (σ := σ) (ν := ν) (q := q) h12 (nn + 1) 0 (by omega) (by omega) with z | ⟨i, hi, e⟩
  · exact absurd z h
  · unfold w_nw_r; rw [e]; exact nI_vin (by omega) (by decide)
noncomputable def in_kn_r (σ : pr_I) (τ : pr_I) (ν : Nat → Int64) : Int32 := (if (w_nw_r τ ν (ndn τ) (in_rw_r σ)) = ((-1) : Int32) then (w_nw_r τ ν (ndn τ) (in_rw_r σ)) else (w_nw_r τ ν (ndn τ) (in_rw_r σ)))
noncomputable def in_kn (σ : pr_I) (τ : pr_I) (ν : Nat → Int64) : pr_I := (if (w_nw_r τ ν (ndn τ) (in_rw_r σ)) = ((-1) : Int32) then (in_fail (in_rw σ) (3 : Int32) ((in_rw σ) 0 5)) else (in_rw σ))
set_option maxRecDepth 100000 in
set_option maxHeartbeats 400000 in
theorem c_in_kn {g : pr_C} {l : Launch} (hl : l.stackTraces = false) {T : pr_T} {I : pr_I} {L : pr_L} {y : Nat} {σ : pr_I} {τ : pr_I} {ν : Nat → Int64} (hy : pr_In T y) {w : Nat} (hw : pr_W T w) (hdis : y + 2 ≤ w ∨ w + 121 ≤ y) (hI : in_I σ) (hW : wI τ) : pr_M g l 3 0 0 mX1_readKnownNode [.ref y, .ref w] T (rg_put (ws_put I w τ) y 2 σ) (pr_rowl L (w + 120) ν) (pr_R (some (.int (in_kn_r σ τ ν))) T (rg_put (ws_put I w τ) y 2 (in_kn σ τ ν)) (pr_rowl L (w + 120) ν)) pr_no := by
  refine pr_ofG (by decide) rfl hl (Nat.le_of_ble_eq_true rfl) (fun X hA hX hXn hXt => ?_)
  subst hX
  show pr_G g X mX1_readKnownNode.2.2.1 _ 0 0 0 [.ref y, .ref w, .null] [] T (rg_put (ws_put I w τ) y 2 σ) (pr_rowl L (w + 120) ν)
  have hn12 := wI_nn12 hW
  have hl24 := wI_nl24 hW
  refine pr_aload_n hA dX1_readKnownNode_0 rfl ?_
  refine pr_aload_n hA dX1_readKnownNode_1 rfl ?_
  refine pr_callVl hA [] (c_in_rw (y := y) (σ := σ) (pr_hl hA) hy hI) v_X1_49 (in_k0 hy) (by decide) rfl rfl rfl (by decide) (Nat.zero_le _) (Nat.zero_le _) rfl (Nat.le_of_ble_eq_true rfl) dX1_readKnownNode_2 ?_
  refine pr_gI (I' := (ws_put (rg_put I y 2 (in_rw σ)) w τ)) (ws_rg (by omega)) ?_
  refine pr_callVi hA [.long (in_rw_r σ)] (c_w_nw (pr_hl hA) hw lr_row (wI_nn hW) (by omega)) v_X1_103 (wk_0 hw) (by decide) rfl rfl rfl (by decide) (Nat.zero_le _) (Nat.zero_le _) rfl (Nat.le_of_ble_eq_true rfl) dX1_readKnownNode_5 ?_
  refine pr_gI (I' := (rg_put (ws_put I w τ) y 2 (in_rw σ))) (rg_ws (by omega)) ?_
  refine pr_istore_n (ls' := [_, _, _]) hA dX1_readKnownNode_8 (by decide) rfl ?_
  refine pr_iload_n hA dX1_readKnownNode_9 rfl ?_
  refine pr_iconst hA ((-1)) dX1_readKnownNode_10 (by decide) ?_
  refine pr_icmp_ne hA 23 dX1_readKnownNode_11 (by decide) (fun c_11 => ?_) (fun c_11 => ?_)
  · refine pr_iload_n hA dX1_readKnownNode_23 rfl ?_
    exact pr_ireturn hA rfl rfl (Nat.zero_le _) (Nat.zero_le _) dX1_readKnownNode_24 ⟨(by simp only [in_kn_r, if_neg c_11]), rfl, (by simp only [in_kn, if_neg c_11]), rfl⟩
  · refine pr_aload_n hA dX1_readKnownNode_14 rfl ?_
    refine pr_iconst hA (3) dX1_readKnownNode_15 (by decide) ?_
    refine pr_aload_n hA dX1_readKnownNode_16 rfl ?_
    refine pr_getE (v := ((in_rw σ) 0 5)) hA f_X1_28 rfl (in_k0 hy) (rg_val0 (by decide)) dX1_readKnownNode_17 ?_
    refine pr_callVv hA [.int (3 : Int32), .int ((in_rw σ) 0 5)] (c_in_fail (y := y) (σ := (in_rw σ)) (pr_hl hA) hy) v_X1_86 (in_k0 hy) (by decide) rfl rfl rfl (by decide) (Nat.zero_le _) (Nat.zero_le _) rfl (Nat.le_of_ble_eq_true rfl) dX1_readKnownNode_20 ?_
    refine pr_iload_n hA dX1_readKnownNode_23 rfl ?_
    exact pr_ireturn hA rfl rfl (Nat.zero_le _) (Nat.zero_le _) dX1_readKnownNode_24 ⟨(by simp only [in_kn_r, if_pos c_11]), rfl, (by simp only [in_kn, if_pos c_11]), rfl⟩

theorem fr_in_kn {σ : pr_I} {τ : pr_I} {ν : Nat → Int64} {o : Nat} (hms : ∀ m ∈ ([0] : List Nat), o ≠ m) : in_kn σ τ ν o = σ o := by
  unfold in_kn
  simp only [List.mem_cons, List.not_mem_nil, or_false, forall_eq_or_imp, forall_eq] at hms
  by_cases c_11 : (w_nw_r τ ν (ndn τ) (in_rw_r σ)) = ((-1) : Int32)
  · refine (congrFun (if_pos c_11) o).trans ?_
    rw [fr_in_fail (by simp only [List.mem_cons, List.not_mem_nil, or_false, forall_eq_or_imp, forall_eq]; omega), fr_in_rw (by simp only [List.mem_cons, List.not_mem_nil, or_false, forall_eq_or_imp, forall_eq]; omega)]
  · refine (congrFun (if_neg c_11) o).trans ?_
    rw [fr_in_rw (by simp only [List.mem_cons, List.not_mem_nil, or_false, forall_eq_or_imp, forall_eq]; omega)]

noncomputable def in_no (σ : pr_I) (τ : pr_I) (ν : Nat → Int64) (p : Int32) : pr_I := (if (nI (ndn τ)) < (nI 12) then (if (lg_cmp (in_rw_r σ) (0 : Int64)) = 0 then (if ((in_fail (in_rw σ) (3 : Int32) ((in_rw σ) 0 5)) 0 0) = 0 then (in_fail (in_rw σ) (3 : Int32) ((in_rw σ) 0 5)) else (in_fail (in_rw σ) (3 : Int32) ((in_rw σ) 0 5))) else (if (w_nw_r τ ν (ndn τ) (in_rw_r σ)) = ((-1) : Int32) then (if ((in_rw σ) 0 0) = 0 then (in_rw σ) else (in_rw σ)) else (if ((in_fail (in_rw σ) (3 : Int32) ((in_rw σ) 0 5)) 0 0) = 0 then (in_fail (in_rw σ) (3 : Int32) ((in_rw σ) 0 5)) else (in_fail (in_rw σ) (3 : Int32) ((in_rw σ) 0 5))))) else (in_fail σ (4 : Int32) p))
noncomputable def in_no_w (τ : pr_I) (σ : pr_I) (ν : Nat → Int64) (p : Int32) : pr_I := (if (nI (ndn τ)) < (nI 12) then (if (lg_cmp (in_rw_r σ) (0 : Int64)) = 0 then (if ((in_fail (in_rw σ) (3 : Int32) ((in_rw σ) 0 5)) 0 0) = 0 then (w_an τ (ndn τ) (in_rw_r σ)) else τ) else (if (w_nw_r τ ν (ndn τ) (in_rw_r σ)) = ((-1) : Int32) then (if ((in_rw σ) 0 0) = 0 then (w_an τ (ndn τ) (in_rw_r σ)) else τ) else (if ((in_fail (in_rw σ) (3 : Int32) ((in_rw σ) 0 5)) 0 0) = 0 then (w_an τ (ndn τ) (in_rw_r σ)) else τ))) else τ)
noncomputable def in_no_nu (σ : pr_I) (τ : pr_I) (ν : Nat → Int64) (p : Int32) : Nat → Int64 := (if (nI (ndn τ)) < (nI 12) then (if (lg_cmp (in_rw_r σ) (0 : Int64)) = 0 then (if ((in_fail (in_rw σ) (3 : Int32) ((in_rw σ) 0 5)) 0 0) = 0 then (nm_an ν (ndn τ) (in_rw_r σ)) else ν) else (if (w_nw_r τ ν (ndn τ) (in_rw_r σ)) = ((-1) : Int32) then (if ((in_rw σ) 0 0) = 0 then (nm_an ν (ndn τ) (in_rw_r σ)) else ν) else (if ((in_fail (in_rw σ) (3 : Int32) ((in_rw σ) 0 5)) 0 0) = 0 then (nm_an ν (ndn τ) (in_rw_r σ)) else ν))) else ν)
set_option maxRecDepth 100000 in
set_option maxHeartbeats 400000 in
theorem c_in_no {g : pr_C} {l : Launch} (hl : l.stackTraces = false) {T : pr_T} {I : pr_I} {L : pr_L} {y : Nat} {σ : pr_I} {τ : pr_I} {ν : Nat → Int64} {p : Int32} (hy : pr_In T y) {w : Nat} (hw : pr_W T w) (hdis : y + 2 ≤ w ∨ w + 121 ≤ y) (hI : in_I σ) (hW : wI τ) : pr_M g l 3 0 0 mX1_readNode [.ref y, .ref w, .int p] T (rg_put (ws_put I w τ) y 2 σ) (pr_rowl L (w + 120) ν) (pr_R none T (rg_put (ws_put I w (in_no_w τ σ ν p)) y 2 (in_no σ τ ν p)) (pr_rowl L (w + 120) (in_no_nu σ τ ν p))) pr_no := by
  refine pr_ofG (by decide) rfl hl (Nat.le_of_ble_eq_true rfl) (fun X hA hX hXn hXt => ?_)
  subst hX
  show pr_G g X mX1_readNode.2.2.1 _ 0 0 0 [.ref y, .ref w, .int p, .null, .null] [] T (rg_put (ws_put I w τ) y 2 σ) (pr_rowl L (w + 120) ν)
  have hn12 := wI_nn12 hW
  have hl24 := wI_nl24 hW
  refine pr_aload_n hA dX1_readNode_0 rfl ?_
  refine pr_getE (v := (nI (ndn τ))) hA f_X1_100 rfl (wk_0 hw) ((rg_outv (by omega)).trans (ws_val0.trans (wI_nn hW))) dX1_readNode_1 ?_
  refine pr_bipush hA (nI 12) dX1_readNode_4 (by decide) ?_
  refine pr_icmp_lt hA 16 dX1_readNode_6 (by decide) (fun c_6 => ?_) (fun c_6 => ?_)
  · have n_6 : (ndn τ) < 12 := (nI_ltI (by omega) (by omega)).mp c_6
    refine pr_aload_n hA dX1_readNode_16 rfl ?_
    refine pr_callVl hA [] (c_in_rw (y := y) (σ := σ) (pr_hl hA) hy hI) v_X1_49 (in_k0 hy) (by decide) rfl rfl rfl (by decide) (Nat.zero_le _) (Nat.zero_le _) rfl (Nat.le_of_ble_eq_true rfl) dX1_readNode_17 ?_
    refine pr_lstore_n (ls' := [_, _, _, _, _]) hA dX1_readNode_20 (by decide) rfl ?_
    refine pr_lload_n hA dX1_readNode_21 rfl ?_
    refine pr_lconst hA 0 dX1_readNode_22 (by decide) ?_
    refine pr_lcmp hA dX1_readNode_23 ?_
    refine pr_if_eq hA 36 dX1_readNode_24 (by decide) (fun c_24 => ?_) (fun c_24 => ?_)
    · refine pr_aload_n hA dX1_readNode_36 rfl ?_
      refine pr_iconst hA (3) dX1_readNode_37 (by decide) ?_
      refine pr_aload_n hA dX1_readNode_38 rfl ?_
      refine pr_getE (v := ((in_rw σ) 0 5)) hA f_X1_28 rfl (in_k0 hy) (rg_val0 (by decide)) dX1_readNode_39 ?_
      refine pr_callVv hA [.int (3 : Int32), .int ((in_rw σ) 0 5)] (c_in_fail (y := y) (σ := (in_rw σ)) (pr_hl hA) hy) v_X1_86 (in_k0 hy) (by decide) rfl rfl rfl (by decide) (Nat.zero_le _) (Nat.zero_le _) rfl (Nat.le_of_ble_eq_true rfl) dX1_readNode_42 ?_
      refine pr_aload_n hA dX1_readNode_45 rfl ?_
      refine pr_getE (v := ((in_fail (in_rw σ) (3 : Int32) ((in_rw σ) 0 5)) 0 0)) hA f_X1_9 rfl (in_k0 hy) (rg_val0 (by decide)) dX1_readNode_46 ?_
      refine pr_if_ne hA 57 dX1_readNode_49 (by decide) (fun c_49 => ?_) (fun c_49 => ?_)
      · exact pr_return hA rfl (Nat.zero_le _) (Nat.zero_le _) dX1_readNode_57 ⟨rfl, rfl, (by simp only [in_no, in_no_w, if_pos c_6, if_pos c_24, if_neg c_49]), (by simp only [in_no_nu, if_pos c_6, if_pos c_24, if_neg c_49])⟩
      · refine pr_aload_n hA dX1_readNode_52 rfl ?_
        refine pr_lload_n hA dX1_readNode_53 rfl ?_
        refine pr_gI (I' := (ws_put (rg_put I y 2 (in_fail (in_rw σ) (3 : Int32) ((in_rw σ) 0 5))) w τ)) (ws_rg (by omega)) ?_
        refine pr_callVv hA [.long (in_rw_r σ)] (c_w_anE (pr_hl hA) hw (wI_nn hW) (by omega)) v_X1_106 (wk_0 hw) (by decide) rfl rfl rfl (by decide) (Nat.zero_le _) (Nat.zero_le _) rfl (Nat.le_of_ble_eq_true rfl) dX1_readNode_54 ?_
        refine pr_gI (I' := (rg_put (ws_put I w (w_an τ (ndn τ) (in_rw_r σ))) y 2 (in_fail (in_rw σ) (3 : Int32) ((in_rw σ) 0 5)))) (rg_ws (by omega)) ?_
        exact pr_return hA rfl (Nat.zero_le _) (Nat.zero_le _) dX1_readNode_57 ⟨rfl, rfl, (by simp only [in_no, in_no_w, if_pos c_6, if_pos c_24, if_pos c_49]), (by simp only [in_no_nu, if_pos c_6, if_pos c_24, if_pos c_49])⟩
    · refine pr_aload_n hA dX1_readNode_27 rfl ?_
      refine pr_lload_n hA dX1_readNode_28 rfl ?_
      refine pr_gI (I' := (ws_put (rg_put I y 2 (in_rw σ)) w τ)) (ws_rg (by omega)) ?_
      refine pr_callVi hA [.long (in_rw_r σ)] (c_w_nw (pr_hl hA) hw lr_row (wI_nn hW) (by omega)) v_X1_103 (wk_0 hw) (by decide) rfl rfl rfl (by decide) (Nat.zero_le _) (Nat.zero_le _) rfl (Nat.le_of_ble_eq_true rfl) dX1_readNode_29 ?_
      refine pr_gI (I' := (rg_put (ws_put I w τ) y 2 (in_rw σ))) (rg_ws (by omega)) ?_
      refine pr_iconst hA ((-1)) dX1_readNode_32 (by decide) ?_
      refine pr_icmp_eq hA 45 dX1_readNode_33 (by decide) (fun c_33 => ?_) (fun c_33 => ?_)
      · refine pr_aload_n hA dX1_readNode_45 rfl ?_
        refine pr_getE (v := ((in_rw σ) 0 0)) hA f_X1_9 rfl (in_k0 hy) (rg_val0 (by decide)) dX1_readNode_46 ?_
        refine pr_if_ne hA 57 dX1_readNode_49 (by decide) (fun c_49 => ?_) (fun c_49 => ?_)
        · exact pr_return hA rfl (Nat.zero_le _) (Nat.zero_le _) dX1_readNode_57 ⟨rfl, rfl, (by simp only [in_no, in_no_w, if_pos c_6, if_neg c_24, if_pos c_33, if_neg c_49]), (by simp only [in_no_nu, if_pos c_6, if_neg c_24, if_pos c_33, if_neg c_49])⟩
        · refine pr_aload_n hA dX1_readNode_52 rfl ?_
          refine pr_lload_n hA dX1_readNode_53 rfl ?_
          refine pr_gI (I' := (ws_put (rg_put I y 2 (in_rw σ)) w τ)) (ws_rg (by omega)) ?_
          refine pr_callVv hA [.long (in_rw_r σ)] (c_w_anE (pr_hl hA) hw (wI_nn hW) (by omega)) v_X1_106 (wk_0 hw) (by decide) rfl rfl rfl (by decide) (Nat.zero_le _) (Nat.zero_le _) rfl (Nat.le_of_ble_eq_true rfl) dX1_readNode_54 ?_
          refine pr_gI (I' := (rg_put (ws_put I w (w_an τ (ndn τ) (in_rw_r σ))) y 2 (in_rw σ))) (rg_ws (by omega)) ?_
          exact pr_return hA rfl (Nat.zero_le _) (Nat.zero_le _) dX1_readNode_57 ⟨rfl, rfl, (by simp only [in_no, in_no_w, if_pos c_6, if_neg c_24, if_pos c_33, if_pos c_49]), (by simp only [in_no_nu, if_pos c_6, if_neg c_24, if_pos c_33, if_pos c_49])⟩
      · refine pr_aload_n hA dX1_readNode_36 rfl ?_
        refine pr_iconst hA (3) dX1_readNode_37 (by decide) ?_
        refine pr_aload_n hA dX1_readNode_38 rfl ?_
        refine pr_getE (v := ((in_rw σ) 0 5)) hA f_X1_28 rfl (in_k0 hy) (rg_val0 (by decide)) dX1_readNode_39 ?_
        refine pr_callVv hA [.int (3 : Int32), .int ((in_rw σ) 0 5)] (c_in_fail (y := y) (σ := (in_rw σ)) (pr_hl hA) hy) v_X1_86 (in_k0 hy) (by decide) rfl rfl rfl (by decide) (Nat.zero_le _) (Nat.zero_le _) rfl (Nat.le_of_ble_eq_true rfl) dX1_readNode_42 ?_
        refine pr_aload_n hA dX1_readNode_45 rfl ?_
        refine pr_getE (v := ((in_fail (in_rw σ) (3 : Int32) ((in_rw σ) 0 5)) 0 0)) hA f_X1_9 rfl (in_k0 hy) (rg_val0 (by decide)) dX1_readNode_46 ?_
        refine pr_if_ne hA 57 dX1_readNode_49 (by decide) (fun c_49 => ?_) (fun c_49 => ?_)
        · exact pr_return hA rfl (Nat.zero_le _) (Nat.zero_le _) dX1_readNode_57 ⟨rfl, rfl, (by simp only [in_no, in_no_w, if_pos c_6, if_neg c_24, if_neg c_33, if_neg c_49]), (by simp only [in_no_nu, if_pos c_6, if_neg c_24, if_neg c_33, if_neg c_49])⟩
        · refine pr_aload_n hA dX1_readNode_52 rfl ?_
          refine pr_lload_n hA dX1_readNode_53 rfl ?_
          refine pr_gI (I' := (ws_put (rg_put I y 2 (in_fail (in_rw σ) (3 : Int32) ((in_rw σ) 0 5))) w τ)) (ws_rg (by omega)) ?_
          refine pr_callVv hA [.long (in_rw_r σ)] (c_w_anE (pr_hl hA) hw (wI_nn hW) (by omega)) v_X1_106 (wk_0 hw) (by decide) rfl rfl rfl (by decide) (Nat.zero_le _) (Nat.zero_le _) rfl (Nat.le_of_ble_eq_true rfl) dX1_readNode_54 ?_
          refine pr_gI (I' := (rg_put (ws_put I w (w_an τ (ndn τ) (in_rw_r σ))) y 2 (in_fail (in_rw σ) (3 : Int32) ((in_rw σ) 0 5)))) (rg_ws (by omega)) ?_
          exact pr_return hA rfl (Nat.zero_le _) (Nat.zero_le _) dX1_readNode_57 ⟨rfl, rfl, (by simp only [in_no, in_no_w, if_pos c_6, if_neg c_24, if_neg c_33, if_pos c_49]), (by simp only [in_no_nu, if_pos c_6, if_neg c_24, if_neg c_33, if_pos c_49])⟩
  · have n_6 : ¬ (ndn τ) < 12 := fun q => c_6 ((nI_ltI (by omega) (by omega)).mpr q)
    refine pr_aload_n hA dX1_readNode_9 rfl ?_
    refine pr_iconst hA (4) dX1_readNode_10 (by decide) ?_
    refine pr_iload_n hA dX1_readNode_11 rfl ?_
    refine pr_callVv hA [.int (4 : Int32), .int p] (c_in_fail (y := y) (σ := σ) (pr_hl hA) hy) v_X1_86 (in_k0 hy) (by decide) rfl rfl rfl (by decide) (Nat.zero_le _) (Nat.zero_le _) rfl (Nat.le_of_ble_eq_true rfl) dX1_readNode_12 ?_
    exact pr_return hA rfl (Nat.zero_le _) (Nat.zero_le _) dX1_readNode_15 ⟨rfl, rfl, (by simp only [in_no, in_no_w, if_neg c_6]), (by simp only [in_no_nu, if_neg c_6])⟩

theorem fr_in_no {σ : pr_I} {τ : pr_I} {ν : Nat → Int64} {p : Int32} {o : Nat} (hms : ∀ m ∈ ([0] : List Nat), o ≠ m) : in_no σ τ ν p o = σ o := by
  unfold in_no
  simp only [List.mem_cons, List.not_mem_nil, or_false, forall_eq_or_imp, forall_eq] at hms
  by_cases c_6 : (nI (ndn τ)) < (nI 12)
  · refine (congrFun (if_pos c_6) o).trans ?_
    by_cases c_24 : (lg_cmp (in_rw_r σ) (0 : Int64)) = 0
    · refine (congrFun (if_pos c_24) o).trans ?_
      by_cases c_49 : ((in_fail (in_rw σ) (3 : Int32) ((in_rw σ) 0 5)) 0 0) = 0
      · refine (congrFun (if_pos c_49) o).trans ?_
        rw [fr_in_fail (by simp only [List.mem_cons, List.not_mem_nil, or_false, forall_eq_or_imp, forall_eq]; omega), fr_in_rw (by simp only [List.mem_cons, List.not_mem_nil, or_false, forall_eq_or_imp, forall_eq]; omega)]
      · refine (congrFun (if_neg c_49) o).trans ?_
        rw [fr_in_fail (by simp only [List.mem_cons, List.not_mem_nil, or_false, forall_eq_or_imp, forall_eq]; omega), fr_in_rw (by simp only [List.mem_cons, List.not_mem_nil, or_false, forall_eq_or_imp, forall_eq]; omega)]
    · refine (congrFun (if_neg c_24) o).trans ?_
      by_cases c_33 : (w_nw_r τ ν (ndn τ) (in_rw_r σ)) = ((-1) : Int32)
      · refine (congrFun (if_pos c_33) o).trans ?_
        by_cases c_49 : ((in_rw σ) 0 0) = 0
        · refine (congrFun (if_pos c_49) o).trans ?_
          rw [fr_in_rw (by simp only [List.mem_cons, List.not_mem_nil, or_false, forall_eq_or_imp, forall_eq]; omega)]
        · refine (congrFun (if_neg c_49) o).trans ?_
          rw [fr_in_rw (by simp only [List.mem_cons, List.not_mem_nil, or_false, forall_eq_or_imp, forall_eq]; omega)]
      · refine (congrFun (if_neg c_33) o).trans ?_
        by_cases c_49 : ((in_fail (in_rw σ) (3 : Int32) ((in_rw σ) 0 5)) 0 0) = 0
        · refine (congrFun (if_pos c_49) o).trans ?_
          rw [fr_in_fail (by simp only [List.mem_cons, List.not_mem_nil, or_false, forall_eq_or_imp, forall_eq]; omega), fr_in_rw (by simp only [List.mem_cons, List.not_mem_nil, or_false, forall_eq_or_imp, forall_eq]; omega)]
        · refine (congrFun (if_neg c_49) o).trans ?_
          rw [fr_in_fail (by simp only [List.mem_cons, List.not_mem_nil, or_false, forall_eq_or_imp, forall_eq]; omega), fr_in_rw (by simp only [List.mem_cons, List.not_mem_nil, or_false, forall_eq_or_imp, forall_eq]; omega)]
  · refine (congrFun (if_neg c_6) o).trans ?_
    rw [fr_in_fail (by simp only [List.mem_cons, List.not_mem_nil, or_false, forall_eq_or_imp, forall_eq]; omega)]

theorem fr_in_no_w {τ : pr_I} {σ : pr_I} {ν : Nat → Int64} {p : Int32} {o : Nat} (hms : ∀ m ∈ ([0] : List Nat), o ≠ m) : in_no_w τ σ ν p o = τ o := by
  unfold in_no_w
  simp only [List.mem_cons, List.not_mem_nil, or_false, forall_eq_or_imp, forall_eq] at hms
  by_cases c_6 : (nI (ndn τ)) < (nI 12)
  · refine (congrFun (if_pos c_6) o).trans ?_
    by_cases c_24 : (lg_cmp (in_rw_r σ) (0 : Int64)) = 0
    · refine (congrFun (if_pos c_24) o).trans ?_
      by_cases c_49 : ((in_fail (in_rw σ) (3 : Int32) ((in_rw σ) 0 5)) 0 0) = 0
      · refine (congrFun (if_pos c_49) o).trans ?_
        rw [fr_w_an (by simp only [List.mem_cons, List.not_mem_nil, or_false, forall_eq_or_imp, forall_eq]; omega)]
      · refine (congrFun (if_neg c_49) o).trans ?_
        rfl
    · refine (congrFun (if_neg c_24) o).trans ?_
      by_cases c_33 : (w_nw_r τ ν (ndn τ) (in_rw_r σ)) = ((-1) : Int32)
      · refine (congrFun (if_pos c_33) o).trans ?_
        by_cases c_49 : ((in_rw σ) 0 0) = 0
        · refine (congrFun (if_pos c_49) o).trans ?_
          rw [fr_w_an (by simp only [List.mem_cons, List.not_mem_nil, or_false, forall_eq_or_imp, forall_eq]; omega)]
        · refine (congrFun (if_neg c_49) o).trans ?_
          rfl
      · refine (congrFun (if_neg c_33) o).trans ?_
        by_cases c_49 : ((in_fail (in_rw σ) (3 : Int32) ((in_rw σ) 0 5)) 0 0) = 0
        · refine (congrFun (if_pos c_49) o).trans ?_
          rw [fr_w_an (by simp only [List.mem_cons, List.not_mem_nil, or_false, forall_eq_or_imp, forall_eq]; omega)]
        · refine (congrFun (if_neg c_49) o).trans ?_
          rfl
  · refine (congrFun (if_neg c_6) o).trans ?_
    rfl

theorem wI_w_an {σ : pr_I} {nn : Nat} {q : Int64} (h : wI σ) (hnn12 : nn ≤ 12) : wI (w_an σ nn q) := by
  unfold w_an
  by_cases c : nI 12 ≤ nI nn
  · rw [if_pos c]; exact h
  · rw [if_neg c]
    have : nn < 12 := by
      rcases Nat.lt_or_ge nn 12 with z | z
      · exact z
      · exact absurd ((nI_leI (by omega) (by omega)).mpr z) c
    exact wI.upv h rfl (nI_vin (by omega) (by decide))
theorem I_ite {P : pr_I → Prop} {c : Prop} [Decidable c] {a b : pr_I} (ha : P a) (hb : P b) : P (if c then a else b) := by by_cases q : c <;> simp only [q, if_true, if_false] <;> assumption
theorem inI_in_kn {σ τ : pr_I} {ν : Nat → Int64} (h : in_I σ) : in_I (in_kn σ τ ν) := by
  unfold in_kn
  exact (I_ite (P := in_I) (inI_in_fail (inI_in_rw h)) (inI_in_rw h))
theorem inI_in_no {σ τ : pr_I} {ν : Nat → Int64} {p : Int32} (h : in_I σ) : in_I (in_no σ τ ν p) := by
  unfold in_no
  exact (I_ite (P := in_I) (I_ite (P := in_I) (I_ite (P := in_I) (inI_in_fail (inI_in_rw h)) (inI_in_fail (inI_in_rw h))) (I_ite (P := in_I) (I_ite (P := in_I) (inI_in_rw h) (inI_in_rw h)) (I_ite (P := in_I) (inI_in_fail (inI_in_rw h)) (inI_in_fail (inI_in_rw h))))) (inI_in_fail h))
theorem wI_in_no_w {σ τ : pr_I} {ν : Nat → Int64} {p : Int32} (h : wI τ) : wI (in_no_w τ σ ν p) := by
  have h1 : ∀ q, wI (w_an τ (ndn τ) q) := fun q => wI_w_an h (wI_nn12 h)
  unfold in_no_w
  exact (I_ite (P := wI) (I_ite (P := wI) (I_ite (P := wI) (h1 _) h) (I_ite (P := wI) (I_ite (P := wI) (h1 _) h) (I_ite (P := wI) (h1 _) h))) h)
noncomputable def in_so_r (σ : pr_I) (q : Int64) : Int32 := (if (lg_cmp q (pk 2)) = 0 then (0 : Int32) else (if (lg_cmp q (pk 3)) = 0 then (1 : Int32) else (if (lg_cmp q (pk 4)) = 0 then (2 : Int32) else (if (lg_cmp q (pk 5)) = 0 then (3 : Int32) else (if (lg_cmp q (pk 6)) = 0 then (4 : Int32) else ((-1) : Int32))))))
set_option maxRecDepth 100000 in
set_option maxHeartbeats 400000 in
theorem c_in_so {g : pr_C} {l : Launch} (hl : l.stackTraces = false) {T : pr_T} {I : pr_I} {L : pr_L} {y : Nat} {σ : pr_I} {q : Int64} (hy : pr_In T y)  : pr_M g l 6 0 0 mX1_settingOf [.long q] T (rg_put I y 2 σ) L (pr_R (some (.int (in_so_r σ q))) T (rg_put I y 2 σ) L) pr_no := by
  refine pr_ofG (by decide) rfl hl (Nat.le_of_ble_eq_true rfl) (fun X hA hX hXn hXt => ?_)
  subst hX
  show pr_G g X mX1_settingOf.2.2.1 _ 0 0 0 [.long q, .null] [] T (rg_put I y 2 σ) L
  refine pr_lload_n hA dX1_settingOf_0 rfl ?_
  refine pr_lds (k := 2) (tx := "hold") hA (by decide +kernel) dX1_settingOf_1 ?_
  refine pr_callSl hA [.ref (pr_ak g 2)] (c_packed (k := 2) (pr_hl hA) (by omega)) s_X1_59 rfl (by decide) (Nat.zero_le _) (Nat.zero_le _) rfl (Nat.le_of_ble_eq_true rfl) dX1_settingOf_3 ?_
  refine pr_lcmp hA dX1_settingOf_6 ?_
  refine pr_if_ne hA 12 dX1_settingOf_7 (by decide) (fun c_7 => ?_) (fun c_7 => ?_)
  · refine pr_lload_n hA dX1_settingOf_12 rfl ?_
    refine pr_lds (k := 3) (tx := "retry") hA (by decide +kernel) dX1_settingOf_13 ?_
    refine pr_callSl hA [.ref (pr_ak g 3)] (c_packed (k := 3) (pr_hl hA) (by omega)) s_X1_59 rfl (by decide) (Nat.zero_le _) (Nat.zero_le _) rfl (Nat.le_of_ble_eq_true rfl) dX1_settingOf_15 ?_
    refine pr_lcmp hA dX1_settingOf_18 ?_
    refine pr_if_ne hA 24 dX1_settingOf_19 (by decide) (fun c_19 => ?_) (fun c_19 => ?_)
    · refine pr_lload_n hA dX1_settingOf_24 rfl ?_
      refine pr_lds (k := 4) (tx := "tries") hA (by decide +kernel) dX1_settingOf_25 ?_
      refine pr_callSl hA [.ref (pr_ak g 4)] (c_packed (k := 4) (pr_hl hA) (by omega)) s_X1_59 rfl (by decide) (Nat.zero_le _) (Nat.zero_le _) rfl (Nat.le_of_ble_eq_true rfl) dX1_settingOf_27 ?_
      refine pr_lcmp hA dX1_settingOf_30 ?_
      refine pr_if_ne hA 36 dX1_settingOf_31 (by decide) (fun c_31 => ?_) (fun c_31 => ?_)
      · refine pr_lload_n hA dX1_settingOf_36 rfl ?_
        refine pr_lds (k := 5) (tx := "expire") hA (by decide +kernel) dX1_settingOf_37 ?_
        refine pr_callSl hA [.ref (pr_ak g 5)] (c_packed (k := 5) (pr_hl hA) (by omega)) s_X1_59 rfl (by decide) (Nat.zero_le _) (Nat.zero_le _) rfl (Nat.le_of_ble_eq_true rfl) dX1_settingOf_39 ?_
        refine pr_lcmp hA dX1_settingOf_42 ?_
        refine pr_if_ne hA 48 dX1_settingOf_43 (by decide) (fun c_43 => ?_) (fun c_43 => ?_)
        · refine pr_lload_n hA dX1_settingOf_48 rfl ?_
          refine pr_lds (k := 6) (tx := "cancel") hA (by decide +kernel) dX1_settingOf_49 ?_
          refine pr_callSl hA [.ref (pr_ak g 6)] (c_packed (k := 6) (pr_hl hA) (by omega)) s_X1_59 rfl (by decide) (Nat.zero_le _) (Nat.zero_le _) rfl (Nat.le_of_ble_eq_true rfl) dX1_settingOf_51 ?_
          refine pr_lcmp hA dX1_settingOf_54 ?_
          refine pr_join (c := (lg_cmp q (pk 6)) = 0) (J := 63) (st := []) (4 : Int32) ((-1) : Int32) inferInstance (fun kt kf => ?_) ?_
          · refine pr_if_ne hA 62 dX1_settingOf_55 (by decide) (fun c_55 => ?_) (fun c_55 => ?_)
            · refine pr_iconst hA ((-1)) dX1_settingOf_62 (by decide) ?_
              exact kf c_55
            · refine pr_iconst hA (4) dX1_settingOf_58 (by decide) ?_
              refine pr_goto hA 63 dX1_settingOf_59 (by decide) ?_
              exact kt c_55
          · exact pr_ireturn hA rfl rfl (Nat.zero_le _) (Nat.zero_le _) dX1_settingOf_63 ⟨(by simp only [in_so_r, if_neg c_7, if_neg c_19, if_neg c_31, if_neg c_43]), rfl, rfl, rfl⟩
        · refine pr_iconst hA (3) dX1_settingOf_46 (by decide) ?_
          exact pr_ireturn hA rfl rfl (Nat.zero_le _) (Nat.zero_le _) dX1_settingOf_47 ⟨(by simp only [in_so_r, if_neg c_7, if_neg c_19, if_neg c_31, if_pos c_43]), rfl, rfl, rfl⟩
      · refine pr_iconst hA (2) dX1_settingOf_34 (by decide) ?_
        exact pr_ireturn hA rfl rfl (Nat.zero_le _) (Nat.zero_le _) dX1_settingOf_35 ⟨(by simp only [in_so_r, if_neg c_7, if_neg c_19, if_pos c_31]), rfl, rfl, rfl⟩
    · refine pr_iconst hA (1) dX1_settingOf_22 (by decide) ?_
      exact pr_ireturn hA rfl rfl (Nat.zero_le _) (Nat.zero_le _) dX1_settingOf_23 ⟨(by simp only [in_so_r, if_neg c_7, if_pos c_19]), rfl, rfl, rfl⟩
  · refine pr_iconst hA (0) dX1_settingOf_10 (by decide) ?_
    exact pr_ireturn hA rfl rfl (Nat.zero_le _) (Nat.zero_le _) dX1_settingOf_11 ⟨(by simp only [in_so_r, if_pos c_7]), rfl, rfl, rfl⟩

theorem in_so_in {σ : pr_I} {q : Int64} (h : in_so_r σ q ≠ -1) : vp_in (in_so_r σ q) 5 := by
  have : in_so_r σ q = -1 ∨ vp_in (in_so_r σ q) 5 := by
    unfold in_so_r
    refine or_ite (P := fun x => x = -1 ∨ vp_in x 5) (Or.inr (nI_vin (k := 0) (by decide) (by decide))) (or_ite (P := fun x => x = -1 ∨ vp_in x 5) (Or.inr (nI_vin (k := 1) (by decide) (by decide))) (or_ite (P := fun x => x = -1 ∨ vp_in x 5) (Or.inr (nI_vin (k := 2) (by decide) (by decide))) (or_ite (P := fun x => x = -1 ∨ vp_in x 5) (Or.inr (nI_vin (k := 3) (by decide) (by decide))) (or_ite (P := fun x => x = -1 ∨ vp_in x 5) (Or.inr (nI_vin (k := 4) (by decide) (by decide))) (Or.inl rfl)))))
  exact this.resolve_left h
noncomputable def in_li (σ : pr_I) (τ : pr_I) (ν : Nat → Int64) (p : Int32) : pr_I := (if (nI (lkn τ)) < (nI 24) then (if (in_kn_r σ τ ν) = (in_kn_r (in_kn σ τ ν) τ ν) then (if ((in_rn (in_rn (in_rn (in_fail (in_kn (in_kn σ τ ν) τ ν) (3 : Int32) ((in_kn (in_kn σ τ ν) τ ν) 0 5)) (0 : Int32) (1000 : Int32)) (0 : Int32) (1000 : Int32)) (1 : Int32) (50 : Int32)) 0 0) = 0 then (in_rn (in_rn (in_rn (in_fail (in_kn (in_kn σ τ ν) τ ν) (3 : Int32) ((in_kn (in_kn σ τ ν) τ ν) 0 5)) (0 : Int32) (1000 : Int32)) (0 : Int32) (1000 : Int32)) (1 : Int32) (50 : Int32)) else (in_rn (in_rn (in_rn (in_fail (in_kn (in_kn σ τ ν) τ ν) (3 : Int32) ((in_kn (in_kn σ τ ν) τ ν) 0 5)) (0 : Int32) (1000 : Int32)) (0 : Int32) (1000 : Int32)) (1 : Int32) (50 : Int32))) else (if ((in_rn (in_rn (in_rn (in_kn (in_kn σ τ ν) τ ν) (0 : Int32) (1000 : Int32)) (0 : Int32) (1000 : Int32)) (1 : Int32) (50 : Int32)) 0 0) = 0 then (in_rn (in_rn (in_rn (in_kn (in_kn σ τ ν) τ ν) (0 : Int32) (1000 : Int32)) (0 : Int32) (1000 : Int32)) (1 : Int32) (50 : Int32)) else (in_rn (in_rn (in_rn (in_kn (in_kn σ τ ν) τ ν) (0 : Int32) (1000 : Int32)) (0 : Int32) (1000 : Int32)) (1 : Int32) (50 : Int32)))) else (in_fail σ (4 : Int32) p))
noncomputable def in_li_w (τ : pr_I) (σ : pr_I) (ν : Nat → Int64) (p : Int32) : pr_I := (if (nI (lkn τ)) < (nI 24) then (if (in_kn_r σ τ ν) = (in_kn_r (in_kn σ τ ν) τ ν) then (if ((in_rn (in_rn (in_rn (in_fail (in_kn (in_kn σ τ ν) τ ν) (3 : Int32) ((in_kn (in_kn σ τ ν) τ ν) 0 5)) (0 : Int32) (1000 : Int32)) (0 : Int32) (1000 : Int32)) (1 : Int32) (50 : Int32)) 0 0) = 0 then (lk_add τ (lkn τ) (in_kn_r σ τ ν) (in_kn_r (in_kn σ τ ν) τ ν) (in_rn_r (in_fail (in_kn (in_kn σ τ ν) τ ν) (3 : Int32) ((in_kn (in_kn σ τ ν) τ ν) 0 5)) (0 : Int32) (1000 : Int32)) (in_rn_r (in_rn (in_fail (in_kn (in_kn σ τ ν) τ ν) (3 : Int32) ((in_kn (in_kn σ τ ν) τ ν) 0 5)) (0 : Int32) (1000 : Int32)) (0 : Int32) (1000 : Int32)) (in_rn_r (in_rn (in_rn (in_fail (in_kn (in_kn σ τ ν) τ ν) (3 : Int32) ((in_kn (in_kn σ τ ν) τ ν) 0 5)) (0 : Int32) (1000 : Int32)) (0 : Int32) (1000 : Int32)) (1 : Int32) (50 : Int32))) else τ) else (if ((in_rn (in_rn (in_rn (in_kn (in_kn σ τ ν) τ ν) (0 : Int32) (1000 : Int32)) (0 : Int32) (1000 : Int32)) (1 : Int32) (50 : Int32)) 0 0) = 0 then (lk_add τ (lkn τ) (in_kn_r σ τ ν) (in_kn_r (in_kn σ τ ν) τ ν) (in_rn_r (in_kn (in_kn σ τ ν) τ ν) (0 : Int32) (1000 : Int32)) (in_rn_r (in_rn (in_kn (in_kn σ τ ν) τ ν) (0 : Int32) (1000 : Int32)) (0 : Int32) (1000 : Int32)) (in_rn_r (in_rn (in_rn (in_kn (in_kn σ τ ν) τ ν) (0 : Int32) (1000 : Int32)) (0 : Int32) (1000 : Int32)) (1 : Int32) (50 : Int32))) else τ)) else τ)
set_option maxRecDepth 100000 in
set_option maxHeartbeats 400000 in
theorem c_in_li {g : pr_C} {l : Launch} (hl : l.stackTraces = false) {T : pr_T} {I : pr_I} {L : pr_L} {y : Nat} {σ : pr_I} {τ : pr_I} {ν : Nat → Int64} {p : Int32} (hy : pr_In T y) {w : Nat} (hw : pr_W T w) (hdis : y + 2 ≤ w ∨ w + 121 ≤ y) (hI : in_I σ) (hW : wI τ) : pr_M g l 4 0 0 mX1_readLink [.ref y, .ref w, .int p] T (rg_put (ws_put I w τ) y 2 σ) (pr_rowl L (w + 120) ν) (pr_R none T (rg_put (ws_put I w (in_li_w τ σ ν p)) y 2 (in_li σ τ ν p)) (pr_rowl L (w + 120) ν)) pr_no := by
  refine pr_ofG (by decide) rfl hl (Nat.le_of_ble_eq_true rfl) (fun X hA hX hXn hXt => ?_)
  subst hX
  show pr_G g X mX1_readLink.2.2.1 _ 0 0 0 [.ref y, .ref w, .int p, .null, .null, .null, .null, .null] [] T (rg_put (ws_put I w τ) y 2 σ) (pr_rowl L (w + 120) ν)
  have hn12 := wI_nn12 hW
  have hl24 := wI_nl24 hW
  refine pr_aload_n hA dX1_readLink_0 rfl ?_
  refine pr_getR hA f_X1_110 rfl (wk_0 hw) (wf_0_0 hw) dX1_readLink_1 ?_
  refine pr_getE (v := (nI (lkn τ))) hA f_X1_114 rfl (wk_1 hw) ((rg_outv (by omega)).trans ((ws_val (by decide)).trans (wI_nl hW))) dX1_readLink_4 ?_
  refine pr_bipush hA (nI 24) dX1_readLink_7 (by decide) ?_
  refine pr_icmp_lt hA 19 dX1_readLink_9 (by decide) (fun c_9 => ?_) (fun c_9 => ?_)
  · have n_9 : (lkn τ) < 24 := (nI_ltI (by omega) (by omega)).mp c_9
    refine pr_aload_n hA dX1_readLink_19 rfl ?_
    refine pr_aload_n hA dX1_readLink_20 rfl ?_
    refine pr_callVi hA [.ref w] (c_in_kn (y := y) (σ := σ) (τ := τ) (ν := ν) (pr_hl hA) hy hw hdis hI hW) v_X1_119 (in_k0 hy) (by decide) rfl rfl rfl (by decide) (Nat.zero_le _) (Nat.zero_le _) rfl (Nat.le_of_ble_eq_true rfl) dX1_readLink_21 ?_
    refine pr_istore_n (ls' := [_, _, _, _, _, _, _, _]) hA dX1_readLink_24 (by decide) rfl ?_
    refine pr_aload_n hA dX1_readLink_25 rfl ?_
    refine pr_aload_n hA dX1_readLink_26 rfl ?_
    refine pr_callVi hA [.ref w] (c_in_kn (y := y) (σ := (in_kn σ τ ν)) (τ := τ) (ν := ν) (pr_hl hA) hy hw hdis (inI_in_kn hI) hW) v_X1_119 (in_k0 hy) (by decide) rfl rfl rfl (by decide) (Nat.zero_le _) (Nat.zero_le _) rfl (Nat.le_of_ble_eq_true rfl) dX1_readLink_27 ?_
    refine pr_istore (ls' := [_, _, _, _, _, _, _, _]) hA dX1_readLink_30 (by decide) rfl ?_
    refine pr_iload_n hA dX1_readLink_32 rfl ?_
    refine pr_iload hA dX1_readLink_33 rfl ?_
    refine pr_icmp_ne hA 47 dX1_readLink_35 (by decide) (fun c_35 => ?_) (fun c_35 => ?_)
    · refine pr_aload_n hA dX1_readLink_47 rfl ?_
      refine pr_iconst hA (0) dX1_readLink_48 (by decide) ?_
      refine pr_sipush hA (1000) dX1_readLink_49 (by decide) ?_
      refine pr_callVi hA [.int (0 : Int32), .int (1000 : Int32)] (c_in_rn (y := y) (σ := (in_kn (in_kn σ τ ν) τ ν)) (pr_hl hA) hy (inI_in_kn (inI_in_kn hI))) v_X1_82 (in_k0 hy) (by decide) rfl rfl rfl (by decide) (Nat.zero_le _) (Nat.zero_le _) rfl (Nat.le_of_ble_eq_true rfl) dX1_readLink_52 ?_
      refine pr_istore (ls' := [_, _, _, _, _, _, _, _]) hA dX1_readLink_55 (by decide) rfl ?_
      refine pr_aload_n hA dX1_readLink_57 rfl ?_
      refine pr_iconst hA (0) dX1_readLink_58 (by decide) ?_
      refine pr_sipush hA (1000) dX1_readLink_59 (by decide) ?_
      refine pr_callVi hA [.int (0 : Int32), .int (1000 : Int32)] (c_in_rn (y := y) (σ := (in_rn (in_kn (in_kn σ τ ν) τ ν) (0 : Int32) (1000 : Int32))) (pr_hl hA) hy (inI_in_rn (inI_in_kn (inI_in_kn hI)))) v_X1_82 (in_k0 hy) (by decide) rfl rfl rfl (by decide) (Nat.zero_le _) (Nat.zero_le _) rfl (Nat.le_of_ble_eq_true rfl) dX1_readLink_62 ?_
      refine pr_istore (ls' := [_, _, _, _, _, _, _, _]) hA dX1_readLink_65 (by decide) rfl ?_
      refine pr_aload_n hA dX1_readLink_67 rfl ?_
      refine pr_iconst hA (1) dX1_readLink_68 (by decide) ?_
      refine pr_bipush hA (50) dX1_readLink_69 (by decide) ?_
      refine pr_callVi hA [.int (1 : Int32), .int (50 : Int32)] (c_in_rn (y := y) (σ := (in_rn (in_rn (in_kn (in_kn σ τ ν) τ ν) (0 : Int32) (1000 : Int32)) (0 : Int32) (1000 : Int32))) (pr_hl hA) hy (inI_in_rn (inI_in_rn (inI_in_kn (inI_in_kn hI))))) v_X1_82 (in_k0 hy) (by decide) rfl rfl rfl (by decide) (Nat.zero_le _) (Nat.zero_le _) rfl (Nat.le_of_ble_eq_true rfl) dX1_readLink_71 ?_
      refine pr_istore (ls' := [_, _, _, _, _, _, _, _]) hA dX1_readLink_74 (by decide) rfl ?_
      refine pr_aload_n hA dX1_readLink_76 rfl ?_
      refine pr_getE (v := ((in_rn (in_rn (in_rn (in_kn (in_kn σ τ ν) τ ν) (0 : Int32) (1000 : Int32)) (0 : Int32) (1000 : Int32)) (1 : Int32) (50 : Int32)) 0 0)) hA f_X1_9 rfl (in_k0 hy) (rg_val0 (by decide)) dX1_readLink_77 ?_
      refine pr_if_ne hA 99 dX1_readLink_80 (by decide) (fun c_80 => ?_) (fun c_80 => ?_)
      · exact pr_return hA rfl (Nat.zero_le _) (Nat.zero_le _) dX1_readLink_99 ⟨rfl, rfl, (by simp only [in_li, in_li_w, if_pos c_9, if_neg c_35, if_neg c_80]), rfl⟩
      · refine pr_aload_n hA dX1_readLink_83 rfl ?_
        refine pr_getR hA f_X1_110 rfl (wk_0 hw) (wf_0_0 hw) dX1_readLink_84 ?_
        refine pr_iload_n hA dX1_readLink_87 rfl ?_
        refine pr_iload hA dX1_readLink_88 rfl ?_
        refine pr_iload hA dX1_readLink_90 rfl ?_
        refine pr_iload hA dX1_readLink_92 rfl ?_
        refine pr_iload hA dX1_readLink_94 rfl ?_
        have hv96 : wI τ := hW
        refine pr_gI (I' := (ws_put (rg_put I y 2 (in_rn (in_rn (in_rn (in_kn (in_kn σ τ ν) τ ν) (0 : Int32) (1000 : Int32)) (0 : Int32) (1000 : Int32)) (1 : Int32) (50 : Int32))) w τ)) (ws_rg (by omega)) ?_
        refine pr_callVv hA [.int (in_kn_r σ τ ν), .int (in_kn_r (in_kn σ τ ν) τ ν), .int (in_rn_r (in_kn (in_kn σ τ ν) τ ν) (0 : Int32) (1000 : Int32)), .int (in_rn_r (in_rn (in_kn (in_kn σ τ ν) τ ν) (0 : Int32) (1000 : Int32)) (0 : Int32) (1000 : Int32)), .int (in_rn_r (in_rn (in_rn (in_kn (in_kn σ τ ν) τ ν) (0 : Int32) (1000 : Int32)) (0 : Int32) (1000 : Int32)) (1 : Int32) (50 : Int32))] (c_lk_add (w := w) (σ := τ) (nl := (lkn τ)) (b := (in_kn_r σ τ ν)) (e := (in_kn_r (in_kn σ τ ν) τ ν)) (u := (in_rn_r (in_kn (in_kn σ τ ν) τ ν) (0 : Int32) (1000 : Int32))) (p := (in_rn_r (in_rn (in_kn (in_kn σ τ ν) τ ν) (0 : Int32) (1000 : Int32)) (0 : Int32) (1000 : Int32))) (t := (in_rn_r (in_rn (in_rn (in_kn (in_kn σ τ ν) τ ν) (0 : Int32) (1000 : Int32)) (0 : Int32) (1000 : Int32)) (1 : Int32) (50 : Int32))) (pr_hl hA) hw (wI_nl hv96) n_9) v_X1_123 (wk_1 hw) (by decide) rfl rfl rfl (by decide) (Nat.zero_le _) (Nat.zero_le _) rfl (Nat.le_of_ble_eq_true rfl) dX1_readLink_96 ?_
        refine pr_gI (I' := (rg_put (ws_put I w (lk_add τ (lkn τ) (in_kn_r σ τ ν) (in_kn_r (in_kn σ τ ν) τ ν) (in_rn_r (in_kn (in_kn σ τ ν) τ ν) (0 : Int32) (1000 : Int32)) (in_rn_r (in_rn (in_kn (in_kn σ τ ν) τ ν) (0 : Int32) (1000 : Int32)) (0 : Int32) (1000 : Int32)) (in_rn_r (in_rn (in_rn (in_kn (in_kn σ τ ν) τ ν) (0 : Int32) (1000 : Int32)) (0 : Int32) (1000 : Int32)) (1 : Int32) (50 : Int32)))) y 2 (in_rn (in_rn (in_rn (in_kn (in_kn σ τ ν) τ ν) (0 : Int32) (1000 : Int32)) (0 : Int32) (1000 : Int32)) (1 : Int32) (50 : Int32)))) (rg_ws (by omega)) ?_
        exact pr_return hA rfl (Nat.zero_le _) (Nat.zero_le _) dX1_readLink_99 ⟨rfl, rfl, (by simp only [in_li, in_li_w, if_pos c_9, if_neg c_35, if_pos c_80]), rfl⟩
    · refine pr_aload_n hA dX1_readLink_38 rfl ?_
      refine pr_iconst hA (3) dX1_readLink_39 (by decide) ?_
      refine pr_aload_n hA dX1_readLink_40 rfl ?_
      refine pr_getE (v := ((in_kn (in_kn σ τ ν) τ ν) 0 5)) hA f_X1_28 rfl (in_k0 hy) (rg_val0 (by decide)) dX1_readLink_41 ?_
      refine pr_callVv hA [.int (3 : Int32), .int ((in_kn (in_kn σ τ ν) τ ν) 0 5)] (c_in_fail (y := y) (σ := (in_kn (in_kn σ τ ν) τ ν)) (pr_hl hA) hy) v_X1_86 (in_k0 hy) (by decide) rfl rfl rfl (by decide) (Nat.zero_le _) (Nat.zero_le _) rfl (Nat.le_of_ble_eq_true rfl) dX1_readLink_44 ?_
      refine pr_aload_n hA dX1_readLink_47 rfl ?_
      refine pr_iconst hA (0) dX1_readLink_48 (by decide) ?_
      refine pr_sipush hA (1000) dX1_readLink_49 (by decide) ?_
      refine pr_callVi hA [.int (0 : Int32), .int (1000 : Int32)] (c_in_rn (y := y) (σ := (in_fail (in_kn (in_kn σ τ ν) τ ν) (3 : Int32) ((in_kn (in_kn σ τ ν) τ ν) 0 5))) (pr_hl hA) hy (inI_in_fail (inI_in_kn (inI_in_kn hI)))) v_X1_82 (in_k0 hy) (by decide) rfl rfl rfl (by decide) (Nat.zero_le _) (Nat.zero_le _) rfl (Nat.le_of_ble_eq_true rfl) dX1_readLink_52 ?_
      refine pr_istore (ls' := [_, _, _, _, _, _, _, _]) hA dX1_readLink_55 (by decide) rfl ?_
      refine pr_aload_n hA dX1_readLink_57 rfl ?_
      refine pr_iconst hA (0) dX1_readLink_58 (by decide) ?_
      refine pr_sipush hA (1000) dX1_readLink_59 (by decide) ?_
      refine pr_callVi hA [.int (0 : Int32), .int (1000 : Int32)] (c_in_rn (y := y) (σ := (in_rn (in_fail (in_kn (in_kn σ τ ν) τ ν) (3 : Int32) ((in_kn (in_kn σ τ ν) τ ν) 0 5)) (0 : Int32) (1000 : Int32))) (pr_hl hA) hy (inI_in_rn (inI_in_fail (inI_in_kn (inI_in_kn hI))))) v_X1_82 (in_k0 hy) (by decide) rfl rfl rfl (by decide) (Nat.zero_le _) (Nat.zero_le _) rfl (Nat.le_of_ble_eq_true rfl) dX1_readLink_62 ?_
      refine pr_istore (ls' := [_, _, _, _, _, _, _, _]) hA dX1_readLink_65 (by decide) rfl ?_
      refine pr_aload_n hA dX1_readLink_67 rfl ?_
      refine pr_iconst hA (1) dX1_readLink_68 (by decide) ?_
      refine pr_bipush hA (50) dX1_readLink_69 (by decide) ?_
      refine pr_callVi hA [.int (1 : Int32), .int (50 : Int32)] (c_in_rn (y := y) (σ := (in_rn (in_rn (in_fail (in_kn (in_kn σ τ ν) τ ν) (3 : Int32) ((in_kn (in_kn σ τ ν) τ ν) 0 5)) (0 : Int32) (1000 : Int32)) (0 : Int32) (1000 : Int32))) (pr_hl hA) hy (inI_in_rn (inI_in_rn (inI_in_fail (inI_in_kn (inI_in_kn hI)))))) v_X1_82 (in_k0 hy) (by decide) rfl rfl rfl (by decide) (Nat.zero_le _) (Nat.zero_le _) rfl (Nat.le_of_ble_eq_true rfl) dX1_readLink_71 ?_
      refine pr_istore (ls' := [_, _, _, _, _, _, _, _]) hA dX1_readLink_74 (by decide) rfl ?_
      refine pr_aload_n hA dX1_readLink_76 rfl ?_
      refine pr_getE (v := ((in_rn (in_rn (in_rn (in_fail (in_kn (in_kn σ τ ν) τ ν) (3 : Int32) ((in_kn (in_kn σ τ ν) τ ν) 0 5)) (0 : Int32) (1000 : Int32)) (0 : Int32) (1000 : Int32)) (1 : Int32) (50 : Int32)) 0 0)) hA f_X1_9 rfl (in_k0 hy) (rg_val0 (by decide)) dX1_readLink_77 ?_
      refine pr_if_ne hA 99 dX1_readLink_80 (by decide) (fun c_80 => ?_) (fun c_80 => ?_)
      · exact pr_return hA rfl (Nat.zero_le _) (Nat.zero_le _) dX1_readLink_99 ⟨rfl, rfl, (by simp only [in_li, in_li_w, if_pos c_9, if_pos c_35, if_neg c_80]), rfl⟩
      · refine pr_aload_n hA dX1_readLink_83 rfl ?_
        refine pr_getR hA f_X1_110 rfl (wk_0 hw) (wf_0_0 hw) dX1_readLink_84 ?_
        refine pr_iload_n hA dX1_readLink_87 rfl ?_
        refine pr_iload hA dX1_readLink_88 rfl ?_
        refine pr_iload hA dX1_readLink_90 rfl ?_
        refine pr_iload hA dX1_readLink_92 rfl ?_
        refine pr_iload hA dX1_readLink_94 rfl ?_
        have hv96 : wI τ := hW
        refine pr_gI (I' := (ws_put (rg_put I y 2 (in_rn (in_rn (in_rn (in_fail (in_kn (in_kn σ τ ν) τ ν) (3 : Int32) ((in_kn (in_kn σ τ ν) τ ν) 0 5)) (0 : Int32) (1000 : Int32)) (0 : Int32) (1000 : Int32)) (1 : Int32) (50 : Int32))) w τ)) (ws_rg (by omega)) ?_
        refine pr_callVv hA [.int (in_kn_r σ τ ν), .int (in_kn_r (in_kn σ τ ν) τ ν), .int (in_rn_r (in_fail (in_kn (in_kn σ τ ν) τ ν) (3 : Int32) ((in_kn (in_kn σ τ ν) τ ν) 0 5)) (0 : Int32) (1000 : Int32)), .int (in_rn_r (in_rn (in_fail (in_kn (in_kn σ τ ν) τ ν) (3 : Int32) ((in_kn (in_kn σ τ ν) τ ν) 0 5)) (0 : Int32) (1000 : Int32)) (0 : Int32) (1000 : Int32)), .int (in_rn_r (in_rn (in_rn (in_fail (in_kn (in_kn σ τ ν) τ ν) (3 : Int32) ((in_kn (in_kn σ τ ν) τ ν) 0 5)) (0 : Int32) (1000 : Int32)) (0 : Int32) (1000 : Int32)) (1 : Int32) (50 : Int32))] (c_lk_add (w := w) (σ := τ) (nl := (lkn τ)) (b := (in_kn_r σ τ ν)) (e := (in_kn_r (in_kn σ τ ν) τ ν)) (u := (in_rn_r (in_fail (in_kn (in_kn σ τ ν) τ ν) (3 : Int32) ((in_kn (in_kn σ τ ν) τ ν) 0 5)) (0 : Int32) (1000 : Int32))) (p := (in_rn_r (in_rn (in_fail (in_kn (in_kn σ τ ν) τ ν) (3 : Int32) ((in_kn (in_kn σ τ ν) τ ν) 0 5)) (0 : Int32) (1000 : Int32)) (0 : Int32) (1000 : Int32))) (t := (in_rn_r (in_rn (in_rn (in_fail (in_kn (in_kn σ τ ν) τ ν) (3 : Int32) ((in_kn (in_kn σ τ ν) τ ν) 0 5)) (0 : Int32) (1000 : Int32)) (0 : Int32) (1000 : Int32)) (1 : Int32) (50 : Int32))) (pr_hl hA) hw (wI_nl hv96) n_9) v_X1_123 (wk_1 hw) (by decide) rfl rfl rfl (by decide) (Nat.zero_le _) (Nat.zero_le _) rfl (Nat.le_of_ble_eq_true rfl) dX1_readLink_96 ?_
        refine pr_gI (I' := (rg_put (ws_put I w (lk_add τ (lkn τ) (in_kn_r σ τ ν) (in_kn_r (in_kn σ τ ν) τ ν) (in_rn_r (in_fail (in_kn (in_kn σ τ ν) τ ν) (3 : Int32) ((in_kn (in_kn σ τ ν) τ ν) 0 5)) (0 : Int32) (1000 : Int32)) (in_rn_r (in_rn (in_fail (in_kn (in_kn σ τ ν) τ ν) (3 : Int32) ((in_kn (in_kn σ τ ν) τ ν) 0 5)) (0 : Int32) (1000 : Int32)) (0 : Int32) (1000 : Int32)) (in_rn_r (in_rn (in_rn (in_fail (in_kn (in_kn σ τ ν) τ ν) (3 : Int32) ((in_kn (in_kn σ τ ν) τ ν) 0 5)) (0 : Int32) (1000 : Int32)) (0 : Int32) (1000 : Int32)) (1 : Int32) (50 : Int32)))) y 2 (in_rn (in_rn (in_rn (in_fail (in_kn (in_kn σ τ ν) τ ν) (3 : Int32) ((in_kn (in_kn σ τ ν) τ ν) 0 5)) (0 : Int32) (1000 : Int32)) (0 : Int32) (1000 : Int32)) (1 : Int32) (50 : Int32)))) (rg_ws (by omega)) ?_
        exact pr_return hA rfl (Nat.zero_le _) (Nat.zero_le _) dX1_readLink_99 ⟨rfl, rfl, (by simp only [in_li, in_li_w, if_pos c_9, if_pos c_35, if_pos c_80]), rfl⟩
  · have n_9 : ¬ (lkn τ) < 24 := fun q => c_9 ((nI_ltI (by omega) (by omega)).mpr q)
    refine pr_aload_n hA dX1_readLink_12 rfl ?_
    refine pr_iconst hA (4) dX1_readLink_13 (by decide) ?_
    refine pr_iload_n hA dX1_readLink_14 rfl ?_
    refine pr_callVv hA [.int (4 : Int32), .int p] (c_in_fail (y := y) (σ := σ) (pr_hl hA) hy) v_X1_86 (in_k0 hy) (by decide) rfl rfl rfl (by decide) (Nat.zero_le _) (Nat.zero_le _) rfl (Nat.le_of_ble_eq_true rfl) dX1_readLink_15 ?_
    exact pr_return hA rfl (Nat.zero_le _) (Nat.zero_le _) dX1_readLink_18 ⟨rfl, rfl, (by simp only [in_li, in_li_w, if_neg c_9]), rfl⟩

theorem fr_in_li {σ : pr_I} {τ : pr_I} {ν : Nat → Int64} {p : Int32} {o : Nat} (hms : ∀ m ∈ ([0] : List Nat), o ≠ m) : in_li σ τ ν p o = σ o := by
  unfold in_li
  simp only [List.mem_cons, List.not_mem_nil, or_false, forall_eq_or_imp, forall_eq] at hms
  by_cases c_9 : (nI (lkn τ)) < (nI 24)
  · refine (congrFun (if_pos c_9) o).trans ?_
    by_cases c_35 : (in_kn_r σ τ ν) = (in_kn_r (in_kn σ τ ν) τ ν)
    · refine (congrFun (if_pos c_35) o).trans ?_
      by_cases c_80 : ((in_rn (in_rn (in_rn (in_fail (in_kn (in_kn σ τ ν) τ ν) (3 : Int32) ((in_kn (in_kn σ τ ν) τ ν) 0 5)) (0 : Int32) (1000 : Int32)) (0 : Int32) (1000 : Int32)) (1 : Int32) (50 : Int32)) 0 0) = 0
      · refine (congrFun (if_pos c_80) o).trans ?_
        rw [fr_in_rn (by simp only [List.mem_cons, List.not_mem_nil, or_false, forall_eq_or_imp, forall_eq]; omega), fr_in_rn (by simp only [List.mem_cons, List.not_mem_nil, or_false, forall_eq_or_imp, forall_eq]; omega), fr_in_rn (by simp only [List.mem_cons, List.not_mem_nil, or_false, forall_eq_or_imp, forall_eq]; omega), fr_in_fail (by simp only [List.mem_cons, List.not_mem_nil, or_false, forall_eq_or_imp, forall_eq]; omega), fr_in_kn (by simp only [List.mem_cons, List.not_mem_nil, or_false, forall_eq_or_imp, forall_eq]; omega), fr_in_kn (by simp only [List.mem_cons, List.not_mem_nil, or_false, forall_eq_or_imp, forall_eq]; omega)]
      · refine (congrFun (if_neg c_80) o).trans ?_
        rw [fr_in_rn (by simp only [List.mem_cons, List.not_mem_nil, or_false, forall_eq_or_imp, forall_eq]; omega), fr_in_rn (by simp only [List.mem_cons, List.not_mem_nil, or_false, forall_eq_or_imp, forall_eq]; omega), fr_in_rn (by simp only [List.mem_cons, List.not_mem_nil, or_false, forall_eq_or_imp, forall_eq]; omega), fr_in_fail (by simp only [List.mem_cons, List.not_mem_nil, or_false, forall_eq_or_imp, forall_eq]; omega), fr_in_kn (by simp only [List.mem_cons, List.not_mem_nil, or_false, forall_eq_or_imp, forall_eq]; omega), fr_in_kn (by simp only [List.mem_cons, List.not_mem_nil, or_false, forall_eq_or_imp, forall_eq]; omega)]
    · refine (congrFun (if_neg c_35) o).trans ?_
      by_cases c_80 : ((in_rn (in_rn (in_rn (in_kn (in_kn σ τ ν) τ ν) (0 : Int32) (1000 : Int32)) (0 : Int32) (1000 : Int32)) (1 : Int32) (50 : Int32)) 0 0) = 0
      · refine (congrFun (if_pos c_80) o).trans ?_
        rw [fr_in_rn (by simp only [List.mem_cons, List.not_mem_nil, or_false, forall_eq_or_imp, forall_eq]; omega), fr_in_rn (by simp only [List.mem_cons, List.not_mem_nil, or_false, forall_eq_or_imp, forall_eq]; omega), fr_in_rn (by simp only [List.mem_cons, List.not_mem_nil, or_false, forall_eq_or_imp, forall_eq]; omega), fr_in_kn (by simp only [List.mem_cons, List.not_mem_nil, or_false, forall_eq_or_imp, forall_eq]; omega), fr_in_kn (by simp only [List.mem_cons, List.not_mem_nil, or_false, forall_eq_or_imp, forall_eq]; omega)]
      · refine (congrFun (if_neg c_80) o).trans ?_
        rw [fr_in_rn (by simp only [List.mem_cons, List.not_mem_nil, or_false, forall_eq_or_imp, forall_eq]; omega), fr_in_rn (by simp only [List.mem_cons, List.not_mem_nil, or_false, forall_eq_or_imp, forall_eq]; omega), fr_in_rn (by simp only [List.mem_cons, List.not_mem_nil, or_false, forall_eq_or_imp, forall_eq]; omega), fr_in_kn (by simp only [List.mem_cons, List.not_mem_nil, or_false, forall_eq_or_imp, forall_eq]; omega), fr_in_kn (by simp only [List.mem_cons, List.not_mem_nil, or_false, forall_eq_or_imp, forall_eq]; omega)]
  · refine (congrFun (if_neg c_9) o).trans ?_
    rw [fr_in_fail (by simp only [List.mem_cons, List.not_mem_nil, or_false, forall_eq_or_imp, forall_eq]; omega)]

theorem fr_in_li_w {τ : pr_I} {σ : pr_I} {ν : Nat → Int64} {p : Int32} {o : Nat} (hms : ∀ m ∈ ([1, 2, 3, 4, 5, 6, 7, 8] : List Nat), o ≠ m) : in_li_w τ σ ν p o = τ o := by
  unfold in_li_w
  simp only [List.mem_cons, List.not_mem_nil, or_false, forall_eq_or_imp, forall_eq] at hms
  by_cases c_9 : (nI (lkn τ)) < (nI 24)
  · refine (congrFun (if_pos c_9) o).trans ?_
    by_cases c_35 : (in_kn_r σ τ ν) = (in_kn_r (in_kn σ τ ν) τ ν)
    · refine (congrFun (if_pos c_35) o).trans ?_
      by_cases c_80 : ((in_rn (in_rn (in_rn (in_fail (in_kn (in_kn σ τ ν) τ ν) (3 : Int32) ((in_kn (in_kn σ τ ν) τ ν) 0 5)) (0 : Int32) (1000 : Int32)) (0 : Int32) (1000 : Int32)) (1 : Int32) (50 : Int32)) 0 0) = 0
      · refine (congrFun (if_pos c_80) o).trans ?_
        rw [fr_lk_add (by simp only [List.mem_cons, List.not_mem_nil, or_false, forall_eq_or_imp, forall_eq]; omega)]
      · refine (congrFun (if_neg c_80) o).trans ?_
        rfl
    · refine (congrFun (if_neg c_35) o).trans ?_
      by_cases c_80 : ((in_rn (in_rn (in_rn (in_kn (in_kn σ τ ν) τ ν) (0 : Int32) (1000 : Int32)) (0 : Int32) (1000 : Int32)) (1 : Int32) (50 : Int32)) 0 0) = 0
      · refine (congrFun (if_pos c_80) o).trans ?_
        rw [fr_lk_add (by simp only [List.mem_cons, List.not_mem_nil, or_false, forall_eq_or_imp, forall_eq]; omega)]
      · refine (congrFun (if_neg c_80) o).trans ?_
        rfl
  · refine (congrFun (if_neg c_9) o).trans ?_
    rfl

theorem sk_e {φ : pr_I} : ∀ k, in_sk_it2 φ k 0 0 = φ 0 0
  | 0 => rfl
  | k + 1 => by
    have ih := sk_e (φ := φ) k
    unfold in_sk_it2
    refine I_ite (P := fun z => z 0 0 = φ 0 0) ih (I_ite (P := fun z => z 0 0 = φ 0 0) ?_ ih)
    exact (pr_upk (k := 4) (j := 0) (by decide)).trans ih
theorem fail_e {φ : pr_I} {e p : Int32} (h : φ 0 0 ≠ 0) : in_fail φ e p 0 0 ≠ 0 := by unfold in_fail; rw [if_neg h]; exact h
theorem fail_f {φ : pr_I} {e p : Int32} (h : e ≠ 0) : in_fail φ e p 0 0 ≠ 0 := by
  unfold in_fail
  by_cases c : φ 0 0 = 0
  · rw [if_pos c, pr_upk (by decide), pr_upe]; exact h
  · rw [if_neg c]; exact c
theorem p_ite {α : Type} {P : α → Prop} {c : Prop} [Decidable c] {a b : α} (ha : P a) (hb : P b) : P (if c then a else b) := by by_cases q : c <;> simp only [q, if_true, if_false] <;> assumption
theorem rwit_e {φ : pr_I} : ∀ k, (in_rw_it16 φ k).1 0 0 = φ 0 0
  | 0 => by
    show pr_up (in_sk φ) 0 5 (in_sk φ 0 4) 0 0 = φ 0 0
    exact (pr_upk (k := 5) (j := 0) (by decide)).trans (sk_e _)
  | k + 1 => by
    have ih := rwit_e (φ := φ) k
    unfold in_rw_it16
    refine p_ite (P := fun z : pr_I × Int64 => z.1 0 0 = φ 0 0) ih ?_
    show pr_up (in_rw_it16 φ k).1 0 4 ((in_rw_it16 φ k).1 0 4 + 1) 0 0 = φ 0 0
    exact (pr_upk (k := 4) (j := 0) (by decide)).trans ih
theorem rw_e {φ : pr_I} (h : φ 0 0 ≠ 0) : in_rw φ 0 0 ≠ 0 := by
  have h1 : (in_rw_it16 φ (sl 700)).1 0 0 ≠ 0 := by rw [rwit_e]; exact h
  unfold in_rw
  exact I_ite (P := fun z => z 0 0 ≠ 0) (fail_e h1) h1
theorem rnit_e {φ : pr_I} {a b : Int32} : ∀ k, (in_rn_it15 φ a b k).1 0 0 = φ 0 0
  | 0 => sk_e _
  | k + 1 => by
    have ih := rnit_e (φ := φ) (a := a) (b := b) k
    unfold in_rn_it15
    refine p_ite (P := fun z : pr_I × Int32 => z.1 0 0 = φ 0 0) ih ?_
    show pr_up (in_rn_it15 φ a b k).1 0 4 ((in_rn_it15 φ a b k).1 0 4 + 1) 0 0 = φ 0 0
    exact (pr_upk (k := 4) (j := 0) (by decide)).trans ih
theorem rn_e {φ : pr_I} {a b : Int32} (h : φ 0 0 ≠ 0) : in_rn φ a b 0 0 ≠ 0 := by
  have h1 : (in_rn_it15 φ a b (sl 700)).1 0 0 ≠ 0 := by rw [rnit_e]; exact h
  unfold in_rn
  exact I_ite (P := fun z => z 0 0 ≠ 0) (fail_e h1) (I_ite (P := fun z => z 0 0 ≠ 0) (fail_e h1) (I_ite (P := fun z => z 0 0 ≠ 0) h1 (fail_e h1)))
theorem kn_e {σ τ : pr_I} {ν : Nat → Int64} (h : σ 0 0 ≠ 0) : in_kn σ τ ν 0 0 ≠ 0 := by
  unfold in_kn
  exact I_ite (P := fun z => z 0 0 ≠ 0) (fail_e (rw_e h)) (rw_e h)
theorem kn_f {σ τ : pr_I} {ν : Nat → Int64} (h : in_kn_r σ τ ν = -1) : in_kn σ τ ν 0 0 ≠ 0 := by
  have e : w_nw_r τ ν (ndn τ) (in_rw_r σ) = -1 := by
    unfold in_kn_r at h
    by_cases c : w_nw_r τ ν (ndn τ) (in_rw_r σ) = -1
    · exact c
    · rw [if_neg c] at h; exact h
  unfold in_kn
  rw [if_pos e]; exact fail_f (by decide)
theorem kn_in {σ τ : pr_I} {ν : Nat → Int64} (hW : wI τ) (h : in_kn_r σ τ ν ≠ -1) : vp_in (in_kn_r σ τ ν) 12 := by
  have e : in_kn_r σ τ ν = w_nw_r τ ν (ndn τ) (in_rw_r σ) := by
    unfold in_kn_r
    exact ite_self _
  rw [e] at h ⊢
  exact w_nw_in (wI_nn12 hW) h
theorem wI_lk_add {σ : pr_I} {nl : Nat} {b e u p t : Int32} (h : wI σ) (hnl : nl < 24) (hb : vp_in b 12) (he : vp_in e 12) : wI (lk_add σ nl b e u p t) := by
  unfold lk_add
  exact (wI.upv (wI.upn (wI.upn (wI.upn (wI.upn (wI.upn (wI.upn (wI.upv (wI.upv h rfl hb) rfl he) rfl) rfl) rfl) rfl) rfl) rfl) rfl (nI_vin (by omega) (by decide)))
theorem wI_in_li_w {σ τ : pr_I} {ν : Nat → Int64} {p : Int32} (h : wI τ) : wI (in_li_w τ σ ν p) := by
  unfold in_li_w
  have hl24 := wI_nl24 h
  by_cases c9 : nI (lkn τ) < nI 24
  · rw [if_pos c9]
    have n9 : lkn τ < 24 := (nI_ltI (by omega) (by omega)).mp c9
    by_cases c35 : in_kn_r σ τ ν = in_kn_r (in_kn σ τ ν) τ ν
    · rw [if_pos c35, if_neg (rn_e (rn_e (rn_e (fail_f (by decide)))))]; exact h
    · rw [if_neg c35]
      by_cases k1 : in_kn_r σ τ ν = -1
      · rw [if_neg (rn_e (rn_e (rn_e (kn_e (kn_f k1)))))]; exact h
      · by_cases k2 : in_kn_r (in_kn σ τ ν) τ ν = -1
        · rw [if_neg (rn_e (rn_e (rn_e (kn_f k2))))]; exact h
        · exact I_ite (P := wI) (wI_lk_add h n9 (kn_in h k1) (kn_in h k2)) h
  · rw [if_neg c9]; exact h
theorem inI_in_li {σ τ : pr_I} {ν : Nat → Int64} {p : Int32} (h : in_I σ) : in_I (in_li σ τ ν p) := by
  unfold in_li
  exact (I_ite (P := in_I) (I_ite (P := in_I) (I_ite (P := in_I) (inI_in_rn (inI_in_rn (inI_in_rn (inI_in_fail (inI_in_kn (inI_in_kn h)))))) (inI_in_rn (inI_in_rn (inI_in_rn (inI_in_fail (inI_in_kn (inI_in_kn h))))))) (I_ite (P := in_I) (inI_in_rn (inI_in_rn (inI_in_rn (inI_in_kn (inI_in_kn h))))) (inI_in_rn (inI_in_rn (inI_in_rn (inI_in_kn (inI_in_kn h))))))) (inI_in_fail h))
noncomputable def in_st (σ : pr_I) (τ : pr_I) (ν : Nat → Int64) : pr_I := (if ((in_rw σ) 0 0) = 0 then (if (lg_cmp (in_rw_r σ) (pk 0)) = 0 then (in_no (in_rw σ) τ ν ((in_rw σ) 0 5)) else (if (lg_cmp (in_rw_r σ) (pk 1)) = 0 then (in_li (in_rw σ) τ ν ((in_rw σ) 0 5)) else (if (in_so_r (in_rw σ) (in_rw_r σ)) = ((-1) : Int32) then (in_fail (in_rw σ) (1 : Int32) ((in_rw σ) 0 5)) else (in_rn (in_rw σ) (pr_sv 1 (in_so_r (in_rw σ) (in_rw_r σ)).toNatClampNeg) (pr_sv 2 (in_so_r (in_rw σ) (in_rw_r σ)).toNatClampNeg))))) else (in_rw σ))
noncomputable def in_st_w (τ : pr_I) (σ : pr_I) (ν : Nat → Int64) : pr_I := (if ((in_rw σ) 0 0) = 0 then (if (lg_cmp (in_rw_r σ) (pk 0)) = 0 then (in_no_w τ (in_rw σ) ν ((in_rw σ) 0 5)) else (if (lg_cmp (in_rw_r σ) (pk 1)) = 0 then (in_li_w τ (in_rw σ) ν ((in_rw σ) 0 5)) else (if (in_so_r (in_rw σ) (in_rw_r σ)) = ((-1) : Int32) then τ else (pr_up τ 119 ((in_so_r (in_rw σ) (in_rw_r σ)).toNatClampNeg) (in_rn_r (in_rw σ) (pr_sv 1 (in_so_r (in_rw σ) (in_rw_r σ)).toNatClampNeg) (pr_sv 2 (in_so_r (in_rw σ) (in_rw_r σ)).toNatClampNeg)))))) else τ)
noncomputable def in_st_nu (σ : pr_I) (τ : pr_I) (ν : Nat → Int64) : Nat → Int64 := (if ((in_rw σ) 0 0) = 0 then (if (lg_cmp (in_rw_r σ) (pk 0)) = 0 then (in_no_nu (in_rw σ) τ ν ((in_rw σ) 0 5)) else (if (lg_cmp (in_rw_r σ) (pk 1)) = 0 then ν else (if (in_so_r (in_rw σ) (in_rw_r σ)) = ((-1) : Int32) then ν else ν))) else ν)
set_option maxRecDepth 100000 in
set_option maxHeartbeats 400000 in
theorem c_in_st {g : pr_C} {l : Launch} (hl : l.stackTraces = false) {T : pr_T} {I : pr_I} {L : pr_L} {y : Nat} {σ : pr_I} {τ : pr_I} {ν : Nat → Int64} (hy : pr_In T y) {w : Nat} (hw : pr_W T w) (hdis : y + 2 ≤ w ∨ w + 121 ≤ y) (hI : in_I σ) (hW : wI τ) : pr_M g l 7 0 0 mX1_readStatement [.ref y, .ref w] T (rg_put (ws_put I w τ) y 2 σ) (pr_rowl L (w + 120) ν) (pr_R none T (rg_put (ws_put I w (in_st_w τ σ ν)) y 2 (in_st σ τ ν)) (pr_rowl L (w + 120) (in_st_nu σ τ ν))) pr_no := by
  refine pr_ofG (by decide) rfl hl (Nat.le_of_ble_eq_true rfl) (fun X hA hX hXn hXt => ?_)
  subst hX
  show pr_G g X mX1_readStatement.2.2.1 _ 0 0 0 [.ref y, .ref w, .null, .null, .null, .null] [] T (rg_put (ws_put I w τ) y 2 σ) (pr_rowl L (w + 120) ν)
  have hn12 := wI_nn12 hW
  have hl24 := wI_nl24 hW
  refine pr_aload_n hA dX1_readStatement_0 rfl ?_
  refine pr_callVl hA [] (c_in_rw (y := y) (σ := σ) (pr_hl hA) hy hI) v_X1_49 (in_k0 hy) (by decide) rfl rfl rfl (by decide) (Nat.zero_le _) (Nat.zero_le _) rfl (Nat.le_of_ble_eq_true rfl) dX1_readStatement_1 ?_
  refine pr_lstore_n (ls' := [_, _, _, _, _, _]) hA dX1_readStatement_4 (by decide) rfl ?_
  refine pr_aload_n hA dX1_readStatement_5 rfl ?_
  refine pr_getE (v := ((in_rw σ) 0 5)) hA f_X1_28 rfl (in_k0 hy) (rg_val0 (by decide)) dX1_readStatement_6 ?_
  refine pr_istore (ls' := [_, _, _, _, _, _]) hA dX1_readStatement_9 (by decide) rfl ?_
  refine pr_lload_n hA dX1_readStatement_11 rfl ?_
  refine pr_callSi hA [.long (in_rw_r σ)] (c_in_so (y := y) (σ := (in_rw σ)) (pr_hl hA) hy) s_X1_53 rfl (by decide) (Nat.zero_le _) (Nat.zero_le _) rfl (Nat.le_of_ble_eq_true rfl) dX1_readStatement_12 ?_
  refine pr_istore (ls' := [_, _, _, _, _, _]) hA dX1_readStatement_15 (by decide) rfl ?_
  refine pr_aload_n hA dX1_readStatement_17 rfl ?_
  refine pr_getE (v := ((in_rw σ) 0 0)) hA f_X1_9 rfl (in_k0 hy) (rg_val0 (by decide)) dX1_readStatement_18 ?_
  refine pr_if_eq hA 25 dX1_readStatement_21 (by decide) (fun c_21 => ?_) (fun c_21 => ?_)
  · refine pr_lload_n hA dX1_readStatement_25 rfl ?_
    refine pr_lds (k := 0) (tx := "node") hA (by decide +kernel) dX1_readStatement_26 ?_
    refine pr_callSl hA [.ref (pr_ak g 0)] (c_packed (k := 0) (pr_hl hA) (by omega)) s_X1_59 rfl (by decide) (Nat.zero_le _) (Nat.zero_le _) rfl (Nat.le_of_ble_eq_true rfl) dX1_readStatement_28 ?_
    refine pr_lcmp hA dX1_readStatement_31 ?_
    refine pr_if_ne hA 45 dX1_readStatement_32 (by decide) (fun c_32 => ?_) (fun c_32 => ?_)
    · refine pr_lload_n hA dX1_readStatement_45 rfl ?_
      refine pr_lds (k := 1) (tx := "link") hA (by decide +kernel) dX1_readStatement_46 ?_
      refine pr_callSl hA [.ref (pr_ak g 1)] (c_packed (k := 1) (pr_hl hA) (by omega)) s_X1_59 rfl (by decide) (Nat.zero_le _) (Nat.zero_le _) rfl (Nat.le_of_ble_eq_true rfl) dX1_readStatement_48 ?_
      refine pr_lcmp hA dX1_readStatement_51 ?_
      refine pr_if_ne hA 65 dX1_readStatement_52 (by decide) (fun c_52 => ?_) (fun c_52 => ?_)
      · refine pr_iload hA dX1_readStatement_65 rfl ?_
        refine pr_iconst hA ((-1)) dX1_readStatement_67 (by decide) ?_
        refine pr_icmp_eq hA 97 dX1_readStatement_68 (by decide) (fun c_68 => ?_) (fun c_68 => ?_)
        · refine pr_aload_n hA dX1_readStatement_97 rfl ?_
          refine pr_iconst hA (1) dX1_readStatement_98 (by decide) ?_
          refine pr_iload hA dX1_readStatement_99 rfl ?_
          refine pr_callVv hA [.int (1 : Int32), .int ((in_rw σ) 0 5)] (c_in_fail (y := y) (σ := (in_rw σ)) (pr_hl hA) hy) v_X1_86 (in_k0 hy) (by decide) rfl rfl rfl (by decide) (Nat.zero_le _) (Nat.zero_le _) rfl (Nat.le_of_ble_eq_true rfl) dX1_readStatement_101 ?_
          exact pr_return hA rfl (Nat.zero_le _) (Nat.zero_le _) dX1_readStatement_104 ⟨rfl, rfl, (by simp only [in_st, in_st_w, if_pos c_21, if_neg c_32, if_neg c_52, if_pos c_68]), (by simp only [in_st_nu, if_pos c_21, if_neg c_32, if_neg c_52, if_pos c_68])⟩
        · refine pr_aload_n hA dX1_readStatement_71 rfl ?_
          refine pr_getR hA f_X1_72 rfl (wk_0 hw) (wf_0_4 hw) dX1_readStatement_72 ?_
          refine pr_iload hA dX1_readStatement_75 rfl ?_
          refine pr_aload_n hA dX1_readStatement_77 rfl ?_
          refine pr_getsN hA 1 (by decide) (by decide +kernel) dX1_readStatement_78 ?_
          refine pr_iload hA dX1_readStatement_81 rfl ?_
          refine pr_sald hA (by decide) (in_so_in c_68) dX1_readStatement_83 ?_
          refine pr_getsN hA 2 (by decide) (by decide +kernel) dX1_readStatement_84 ?_
          refine pr_iload hA dX1_readStatement_87 rfl ?_
          refine pr_sald hA (by decide) (in_so_in c_68) dX1_readStatement_89 ?_
          refine pr_callVi hA [.int (pr_sv 1 (in_so_r (in_rw σ) (in_rw_r σ)).toNatClampNeg), .int (pr_sv 2 (in_so_r (in_rw σ) (in_rw_r σ)).toNatClampNeg)] (c_in_rn (y := y) (σ := (in_rw σ)) (pr_hl hA) hy (inI_in_rw hI)) v_X1_82 (in_k0 hy) (by decide) rfl rfl rfl (by decide) (Nat.zero_le _) (Nat.zero_le _) rfl (Nat.le_of_ble_eq_true rfl) dX1_readStatement_90 ?_
          refine pr_iastE (I' := (rg_put (ws_put I w (pr_up τ 119 ((in_so_r (in_rw σ) (in_rw_r σ)).toNatClampNeg) (in_rn_r (in_rw σ) (pr_sv 1 (in_so_r (in_rw σ) (in_rw_r σ)).toNatClampNeg) (pr_sv 2 (in_so_r (in_rw σ) (in_rw_r σ)).toNatClampNeg)))) y 2 (in_rn (in_rw σ) (pr_sv 1 (in_so_r (in_rw σ) (in_rw_r σ)).toNatClampNeg) (pr_sv 2 (in_so_r (in_rw σ) (in_rw_r σ)).toNatClampNeg)))) hA (wk_119 hw) (in_so_in c_68) ((rg_upo (by omega)).trans (congrArg (fun z => rg_put z y 2 (in_rn (in_rw σ) (pr_sv 1 (in_so_r (in_rw σ) (in_rw_r σ)).toNatClampNeg) (pr_sv 2 (in_so_r (in_rw σ) (in_rw_r σ)).toNatClampNeg))) (ws_up (by decide)))) dX1_readStatement_93 ?_
          refine pr_goto hA 104 dX1_readStatement_94 (by decide) ?_
          exact pr_return hA rfl (Nat.zero_le _) (Nat.zero_le _) dX1_readStatement_104 ⟨rfl, rfl, (by simp only [in_st, in_st_w, if_pos c_21, if_neg c_32, if_neg c_52, if_neg c_68]), (by simp only [in_st_nu, if_pos c_21, if_neg c_32, if_neg c_52, if_neg c_68])⟩
      · refine pr_aload_n hA dX1_readStatement_55 rfl ?_
        refine pr_aload_n hA dX1_readStatement_56 rfl ?_
        refine pr_iload hA dX1_readStatement_57 rfl ?_
        refine pr_callVv hA [.ref w, .int ((in_rw σ) 0 5)] (c_in_li (y := y) (σ := (in_rw σ)) (τ := τ) (ν := ν) (pr_hl hA) hy hw hdis (inI_in_rw hI) hW) v_X1_69 (in_k0 hy) (by decide) rfl rfl rfl (by decide) (Nat.zero_le _) (Nat.zero_le _) rfl (Nat.le_of_ble_eq_true rfl) dX1_readStatement_59 ?_
        refine pr_goto hA 104 dX1_readStatement_62 (by decide) ?_
        exact pr_return hA rfl (Nat.zero_le _) (Nat.zero_le _) dX1_readStatement_104 ⟨rfl, rfl, (by simp only [in_st, in_st_w, if_pos c_21, if_neg c_32, if_pos c_52]), (by simp only [in_st_nu, if_pos c_21, if_neg c_32, if_pos c_52])⟩
    · refine pr_aload_n hA dX1_readStatement_35 rfl ?_
      refine pr_aload_n hA dX1_readStatement_36 rfl ?_
      refine pr_iload hA dX1_readStatement_37 rfl ?_
      refine pr_callVv hA [.ref w, .int ((in_rw σ) 0 5)] (c_in_no (y := y) (σ := (in_rw σ)) (τ := τ) (ν := ν) (pr_hl hA) hy hw hdis (inI_in_rw hI) hW) v_X1_63 (in_k0 hy) (by decide) rfl rfl rfl (by decide) (Nat.zero_le _) (Nat.zero_le _) rfl (Nat.le_of_ble_eq_true rfl) dX1_readStatement_39 ?_
      refine pr_goto hA 104 dX1_readStatement_42 (by decide) ?_
      exact pr_return hA rfl (Nat.zero_le _) (Nat.zero_le _) dX1_readStatement_104 ⟨rfl, rfl, (by simp only [in_st, in_st_w, if_pos c_21, if_pos c_32]), (by simp only [in_st_nu, if_pos c_21, if_pos c_32])⟩
  · exact pr_return hA rfl (Nat.zero_le _) (Nat.zero_le _) dX1_readStatement_24 ⟨rfl, rfl, (by simp only [in_st, in_st_w, if_neg c_21]), (by simp only [in_st_nu, if_neg c_21])⟩

theorem fr_in_st {σ : pr_I} {τ : pr_I} {ν : Nat → Int64} {o : Nat} (hms : ∀ m ∈ ([0] : List Nat), o ≠ m) : in_st σ τ ν o = σ o := by
  unfold in_st
  simp only [List.mem_cons, List.not_mem_nil, or_false, forall_eq_or_imp, forall_eq] at hms
  by_cases c_21 : ((in_rw σ) 0 0) = 0
  · refine (congrFun (if_pos c_21) o).trans ?_
    by_cases c_32 : (lg_cmp (in_rw_r σ) (pk 0)) = 0
    · refine (congrFun (if_pos c_32) o).trans ?_
      rw [fr_in_no (by simp only [List.mem_cons, List.not_mem_nil, or_false, forall_eq_or_imp, forall_eq]; omega), fr_in_rw (by simp only [List.mem_cons, List.not_mem_nil, or_false, forall_eq_or_imp, forall_eq]; omega)]
    · refine (congrFun (if_neg c_32) o).trans ?_
      by_cases c_52 : (lg_cmp (in_rw_r σ) (pk 1)) = 0
      · refine (congrFun (if_pos c_52) o).trans ?_
        rw [fr_in_li (by simp only [List.mem_cons, List.not_mem_nil, or_false, forall_eq_or_imp, forall_eq]; omega), fr_in_rw (by simp only [List.mem_cons, List.not_mem_nil, or_false, forall_eq_or_imp, forall_eq]; omega)]
      · refine (congrFun (if_neg c_52) o).trans ?_
        by_cases c_68 : (in_so_r (in_rw σ) (in_rw_r σ)) = ((-1) : Int32)
        · refine (congrFun (if_pos c_68) o).trans ?_
          rw [fr_in_fail (by simp only [List.mem_cons, List.not_mem_nil, or_false, forall_eq_or_imp, forall_eq]; omega), fr_in_rw (by simp only [List.mem_cons, List.not_mem_nil, or_false, forall_eq_or_imp, forall_eq]; omega)]
        · refine (congrFun (if_neg c_68) o).trans ?_
          rw [fr_in_rn (by simp only [List.mem_cons, List.not_mem_nil, or_false, forall_eq_or_imp, forall_eq]; omega), fr_in_rw (by simp only [List.mem_cons, List.not_mem_nil, or_false, forall_eq_or_imp, forall_eq]; omega)]
  · refine (congrFun (if_neg c_21) o).trans ?_
    rw [fr_in_rw (by simp only [List.mem_cons, List.not_mem_nil, or_false, forall_eq_or_imp, forall_eq]; omega)]

theorem fr_in_st_w {τ : pr_I} {σ : pr_I} {ν : Nat → Int64} {o : Nat} (hms : ∀ m ∈ ([0, 1, 2, 3, 4, 5, 6, 7, 8, 119] : List Nat), o ≠ m) : in_st_w τ σ ν o = τ o := by
  unfold in_st_w
  simp only [List.mem_cons, List.not_mem_nil, or_false, forall_eq_or_imp, forall_eq] at hms
  by_cases c_21 : ((in_rw σ) 0 0) = 0
  · refine (congrFun (if_pos c_21) o).trans ?_
    by_cases c_32 : (lg_cmp (in_rw_r σ) (pk 0)) = 0
    · refine (congrFun (if_pos c_32) o).trans ?_
      rw [fr_in_no_w (by simp only [List.mem_cons, List.not_mem_nil, or_false, forall_eq_or_imp, forall_eq]; omega)]
    · refine (congrFun (if_neg c_32) o).trans ?_
      by_cases c_52 : (lg_cmp (in_rw_r σ) (pk 1)) = 0
      · refine (congrFun (if_pos c_52) o).trans ?_
        rw [fr_in_li_w (by simp only [List.mem_cons, List.not_mem_nil, or_false, forall_eq_or_imp, forall_eq]; omega)]
      · refine (congrFun (if_neg c_52) o).trans ?_
        by_cases c_68 : (in_so_r (in_rw σ) (in_rw_r σ)) = ((-1) : Int32)
        · refine (congrFun (if_pos c_68) o).trans ?_
          rfl
        · refine (congrFun (if_neg c_68) o).trans ?_
          rw [pr_up_ne (by omega)]
  · refine (congrFun (if_neg c_21) o).trans ?_
    rfl

theorem wI_in_st_w {σ τ : pr_I} {ν : Nat → Int64} (h : wI τ) : wI (in_st_w τ σ ν) := by
  unfold in_st_w
  exact (I_ite (P := wI) (I_ite (P := wI) (wI_in_no_w h) (I_ite (P := wI) (wI_in_li_w h) (I_ite (P := wI) h (wI.upn h rfl)))) h)
theorem inI_in_st {σ τ : pr_I} {ν : Nat → Int64} (h : in_I σ) : in_I (in_st σ τ ν) := by
  unfold in_st
  exact (I_ite (P := in_I) (I_ite (P := in_I) (inI_in_no (inI_in_rw h)) (I_ite (P := in_I) (inI_in_li (inI_in_rw h)) (I_ite (P := in_I) (inI_in_fail (inI_in_rw h)) (inI_in_rn (inI_in_rw h))))) (inI_in_rw h))
noncomputable def ri_rl : Nat → Nat → pr_I → pr_I → (Nat → Int64) → pr_I × pr_I × (Nat → Int64)
  | 0, _, φ, ψ, μ => (φ, ψ, μ)
  | j + 1, k, φ, ψ, μ => if nI 700 ≤ nI k then (φ, ψ, μ) else if φ 0 0 = 0 then (if in_end_r φ = 0 then ri_rl j (k + 1) (in_st (in_semi (in_end φ)) ψ μ) (in_st_w ψ (in_semi (in_end φ)) μ) (in_st_nu (in_semi (in_end φ)) ψ μ) else (in_end φ, ψ, μ)) else (φ, ψ, μ)
def in_cl (σ : pr_I) : pr_I := pr_up (pr_up (pr_up σ 0 4 0) 0 0 0) 0 1 0
noncomputable def ri_R (σ τ : pr_I) (ν : Nat → Int64) : pr_I × pr_I × (Nat → Int64) := ri_rl (sl 700 + 1) 0 (in_st (in_cl σ) (w_clear τ) ν) (in_st_w (w_clear τ) (in_cl σ) ν) (in_st_nu (in_cl σ) (w_clear τ) ν)
noncomputable def in_ri (σ τ : pr_I) (ν : Nat → Int64) : pr_I := pr_up (ri_R σ τ ν).1 0 3 0
noncomputable def in_ri_w (τ σ : pr_I) (ν : Nat → Int64) : pr_I := (ri_R σ τ ν).2.1
noncomputable def in_ri_nu (σ τ : pr_I) (ν : Nat → Int64) : Nat → Int64 := (ri_R σ τ ν).2.2
theorem wI_w_clear {σ : pr_I} (h : wI σ) : wI (w_clear σ) := by
  have z : ∀ n, 0 < n → n < 2 ^ 31 → vp_in (0 : Int32) n := fun n h1 h2 => nI_vin (k := 0) h1 h2
  unfold w_clear
  exact (wI.rown (wI.upn (wI.upv (wI.upv (wI.upv (wI.upn (wI.upv h rfl (z _ (by decide) (by decide))) rfl) rfl (z _ (by decide) (by decide))) rfl (z _ (by decide) (by decide))) rfl (z _ (by decide) (by decide))) rfl) (fun _ => rfl))
theorem inI_cl {σ : pr_I} (h : in_I σ) : in_I (in_cl σ) := in_I.up1 (in_I.up0 (in_I.up4 h (nI_vin (k := 0) (by decide) (by decide))))
set_option maxRecDepth 100000 in
set_option maxHeartbeats 400000 in
theorem c_in_ri {g : pr_C} {l : Launch} (hl : l.stackTraces = false) {T : pr_T} {I : pr_I} {L : pr_L} {y : Nat} {σ τ : pr_I} {ν : Nat → Int64} (hy : pr_In T y) {w : Nat} (hw : pr_W T w) (hdis : y + 2 ≤ w ∨ w + 121 ≤ y) (hI : in_I σ) (hW : wI τ) : pr_M g l 9 0 0 mX1_readInto [.ref y, .ref w] T (rg_put (ws_put I w τ) y 2 σ) (pr_rowl L (w + 120) ν) (pr_R none T (rg_put (ws_put I w (in_ri_w τ σ ν)) y 2 (in_ri σ τ ν)) (pr_rowl L (w + 120) (in_ri_nu σ τ ν))) pr_no := by
  refine pr_ofG (by decide) rfl hl (Nat.le_of_ble_eq_true rfl) (fun X hA hX hXn hXt => ?_)
  subst hX
  show pr_G g X mX1_readInto.2.2.1 _ 0 0 0 [.ref y, .ref w, .null] [] T (rg_put (ws_put I w τ) y 2 σ) (pr_rowl L (w + 120) ν)
  have hn12 := wI_nn12 hW
  have hl24 := wI_nl24 hW
  obtain ⟨R, hR0⟩ : ∃ R, ri_R σ τ ν = R := ⟨_, rfl⟩
  refine pr_aload_n hA dX1_readInto_0 rfl ?_
  refine pr_iconst hA (0) dX1_readInto_1 (by decide) ?_
  refine pr_putE (I' := (rg_put (ws_put I w τ) y 2 (pr_up σ 0 4 (0 : Int32)))) hA f_X1_25 rfl (in_k0 hy) (rg_up0 (by decide)) dX1_readInto_2 ?_
  refine pr_aload_n hA dX1_readInto_5 rfl ?_
  refine pr_iconst hA (0) dX1_readInto_6 (by decide) ?_
  refine pr_putE (I' := (rg_put (ws_put I w τ) y 2 (pr_up (pr_up σ 0 4 (0 : Int32)) 0 0 (0 : Int32)))) hA f_X1_9 rfl (in_k0 hy) (rg_up0 (by decide)) dX1_readInto_7 ?_
  refine pr_aload_n hA dX1_readInto_10 rfl ?_
  refine pr_iconst hA (0) dX1_readInto_11 (by decide) ?_
  refine pr_putE (I' := (rg_put (ws_put I w τ) y 2 (pr_up (pr_up (pr_up σ 0 4 (0 : Int32)) 0 0 (0 : Int32)) 0 1 (0 : Int32)))) hA f_X1_15 rfl (in_k0 hy) (rg_up0 (by decide)) dX1_readInto_12 ?_
  refine pr_aload_n hA dX1_readInto_15 rfl ?_
  refine pr_gI (I' := (ws_put (rg_put I y 2 (pr_up (pr_up (pr_up σ 0 4 (0 : Int32)) 0 0 (0 : Int32)) 0 1 (0 : Int32))) w τ)) (ws_rg (by omega)) ?_
  refine pr_callVv hA [] (c_w_clear (w := w) (σ := τ) (pr_hl hA) hw) v_X1_33 (wk_0 hw) (by decide) rfl rfl rfl (by decide) (Nat.zero_le _) (Nat.zero_le _) rfl (Nat.le_of_ble_eq_true rfl) dX1_readInto_16 ?_
  refine pr_gI (I' := (rg_put (ws_put I w (w_clear τ)) y 2 (pr_up (pr_up (pr_up σ 0 4 (0 : Int32)) 0 0 (0 : Int32)) 0 1 (0 : Int32)))) (rg_ws (by omega)) ?_
  refine pr_aload_n hA dX1_readInto_19 rfl ?_
  refine pr_aload_n hA dX1_readInto_20 rfl ?_
  refine pr_callVv hA [.ref w] (c_in_st (y := y) (σ := (pr_up (pr_up (pr_up σ 0 4 (0 : Int32)) 0 0 (0 : Int32)) 0 1 (0 : Int32))) (τ := (w_clear τ)) (ν := ν) (pr_hl hA) hy hw hdis (inI_cl hI) (wI_w_clear hW)) v_X1_38 (in_k0 hy) (by decide) rfl rfl rfl (by decide) (Nat.zero_le _) (Nat.zero_le _) rfl (Nat.le_of_ble_eq_true rfl) dX1_readInto_21 ?_
  refine pr_iconst hA (nI 0) dX1_readInto_24 (by decide) ?_
  refine pr_istore_n (ls' := [_, _, _]) hA dX1_readInto_25 (by decide) rfl ?_
  have lp26 : ∀ (j k : Nat) (φ ψ : pr_I) (μ : Nat → Int64), in_I φ → wI ψ → 700 + 1 - k = j → k ≤ 700 → ri_rl j k φ ψ μ = R → pr_G g X mX1_readInto.2.2.1 (pr_MQ g X (pr_R none T (rg_put (ws_put I w (in_ri_w τ σ ν)) y 2 (in_ri σ τ ν)) (pr_rowl L (w + 120) (in_ri_nu σ τ ν))) pr_no 0 0) 0 0 26 [.ref y, .ref w, .int (nI k)] [] T (rg_put (ws_put I w ψ) y 2 φ) (pr_rowl L (w + 120) μ) := by
    intro j
    induction j with
    | zero => intro k φ ψ μ hI hW hj hk hR; omega
    | succ j ih =>
      intro k φ ψ μ hI hW hj hk hR
      refine pr_iload_n hA dX1_readInto_26 rfl ?_
      refine pr_sipush hA (nI 700) dX1_readInto_27 (by decide) ?_
      refine pr_icmp_ge hA 62 dX1_readInto_30 (by decide) (fun c_30 => ?_) (fun c_30 => ?_)
      · have n_30 : 700 ≤ k := (nI_leI (by omega) (by omega)).mp c_30
        refine pr_aload_n hA dX1_readInto_62 rfl ?_
        refine pr_iconst hA (0) dX1_readInto_63 (by decide) ?_
        refine pr_putE (I' := (rg_put (ws_put I w ψ) y 2 (pr_up φ 0 3 (0 : Int32)))) hA f_X1_22 rfl (in_k0 hy) (rg_up0 (by decide)) dX1_readInto_64 ?_
        simp only [ri_rl, if_pos c_30] at hR
        exact pr_return hA rfl (Nat.zero_le _) (Nat.zero_le _) dX1_readInto_67 ⟨rfl, rfl, by rw [in_ri, in_ri_w, hR0, ← hR], by rw [in_ri_nu, hR0, ← hR]⟩
      · have n_30 : ¬ 700 ≤ k := fun q => c_30 ((nI_leI (by omega) (by omega)).mpr q)
        refine pr_aload_n hA dX1_readInto_33 rfl ?_
        refine pr_getE (v := (φ 0 0)) hA f_X1_9 rfl (in_k0 hy) (rg_val0 (by decide)) dX1_readInto_34 ?_
        refine pr_if_ne hA 62 dX1_readInto_37 (by decide) (fun c_37 => ?_) (fun c_37 => ?_)
        · refine pr_aload_n hA dX1_readInto_62 rfl ?_
          refine pr_iconst hA (0) dX1_readInto_63 (by decide) ?_
          refine pr_putE (I' := (rg_put (ws_put I w ψ) y 2 (pr_up φ 0 3 (0 : Int32)))) hA f_X1_22 rfl (in_k0 hy) (rg_up0 (by decide)) dX1_readInto_64 ?_
          simp only [ri_rl, if_neg c_30, if_neg c_37] at hR
          exact pr_return hA rfl (Nat.zero_le _) (Nat.zero_le _) dX1_readInto_67 ⟨rfl, rfl, by rw [in_ri, in_ri_w, hR0, ← hR], by rw [in_ri_nu, hR0, ← hR]⟩
        · refine pr_aload_n hA dX1_readInto_40 rfl ?_
          refine pr_callVi hA [] (c_in_end (y := y) (σ := φ) (pr_hl hA) hy hI) v_X1_42 (in_k0 hy) (by decide) rfl rfl rfl (by decide) (Nat.zero_le _) (Nat.zero_le _) rfl (Nat.le_of_ble_eq_true rfl) dX1_readInto_41 ?_
          refine pr_if_ne hA 62 dX1_readInto_44 (by decide) (fun c_44 => ?_) (fun c_44 => ?_)
          · refine pr_aload_n hA dX1_readInto_62 rfl ?_
            refine pr_iconst hA (0) dX1_readInto_63 (by decide) ?_
            refine pr_putE (I' := (rg_put (ws_put I w ψ) y 2 (pr_up (in_end φ) 0 3 (0 : Int32)))) hA f_X1_22 rfl (in_k0 hy) (rg_up0 (by decide)) dX1_readInto_64 ?_
            simp only [ri_rl, if_neg c_30, if_pos c_37, if_neg c_44] at hR
            exact pr_return hA rfl (Nat.zero_le _) (Nat.zero_le _) dX1_readInto_67 ⟨rfl, rfl, by rw [in_ri, in_ri_w, hR0, ← hR], by rw [in_ri_nu, hR0, ← hR]⟩
          · refine pr_aload_n hA dX1_readInto_47 rfl ?_
            refine pr_callVv hA [] (c_in_semi (y := y) (σ := (in_end φ)) (pr_hl hA) hy (inI_in_end hI)) v_X1_46 (in_k0 hy) (by decide) rfl rfl rfl (by decide) (Nat.zero_le _) (Nat.zero_le _) rfl (Nat.le_of_ble_eq_true rfl) dX1_readInto_48 ?_
            refine pr_aload_n hA dX1_readInto_51 rfl ?_
            refine pr_aload_n hA dX1_readInto_52 rfl ?_
            refine pr_callVv hA [.ref w] (c_in_st (y := y) (σ := (in_semi (in_end φ))) (τ := ψ) (ν := μ) (pr_hl hA) hy hw hdis (inI_in_semi (inI_in_end hI)) hW) v_X1_38 (in_k0 hy) (by decide) rfl rfl rfl (by decide) (Nat.zero_le _) (Nat.zero_le _) rfl (Nat.le_of_ble_eq_true rfl) dX1_readInto_53 ?_
            refine pr_iinc (ls' := [_, _, _]) hA (nI (k + 1)) dX1_readInto_56 (by decide) rfl (nI_inc _) rfl ?_
            refine pr_goto hA 26 dX1_readInto_59 (by decide) ?_
            simp only [ri_rl, if_neg c_30, if_pos c_37, if_pos c_44] at hR
            exact ih (k + 1) _ _ _ (inI_in_st (inI_in_semi (inI_in_end hI))) (wI_in_st_w hW) (by omega) (by omega) hR
  exact lp26 _ 0 _ _ _ (inI_in_st (inI_cl hI)) (wI_in_st_w (wI_w_clear hW)) (by rw [sl_eq]) (Nat.zero_le _) hR0

