/-! READING A TEXT INTO A WORLD -/
def ndn (σ : pr_I) : Nat := (σ 0 6).toNatClampNeg
theorem wI_nn {σ : pr_I} (h : wI σ) : σ 0 6 = nI (ndn σ) := vp_nI (h 0 6 13 rfl) (by decide)
theorem wI_nn12 {σ : pr_I} (h : wI σ) : ndn σ ≤ 12 := Nat.le_of_lt_succ (vp_in_lt (h 0 6 13 rfl))
def lr_up (ν : Nat → Int64) (k : Nat) (v : Int64) : Nat → Int64 := fun j => if j = k then v else ν j
theorem lr_upl {L : pr_L} {a k : Nat} {ν : Nat → Int64} {v : Int64} : pr_upl (pr_rowl L a ν) a k v = pr_rowl L a (lr_up ν k v) := by
  funext b j
  unfold pr_upl pr_rowl lr_up
  by_cases h : b = a <;> simp [h]
theorem lr_row {L : pr_L} {a : Nat} {ν : Nat → Int64} : pr_rowl L a ν a = ν := pr_rowl_eq
theorem lr_self {L : pr_L} {a : Nat} : pr_rowl L a (L a) = L := by funext b; unfold pr_rowl; split <;> simp [*]
theorem lr_two {L : pr_L} {a : Nat} {ν μ : Nat → Int64} : pr_rowl (pr_rowl L a ν) a μ = pr_rowl L a μ := by funext b; unfold pr_rowl; split <;> rfl
noncomputable def nm_an (ν : Nat → Int64) (nn : Nat) (q : Int64) : Nat → Int64 := if nI 12 ≤ nI nn then ν else lr_up ν nn q
theorem c_w_anE {g : pr_C} {l : Launch} (hl : l.stackTraces = false) {T : pr_T} {I : pr_I} {L : pr_L} {w : Nat} {σ : pr_I} {nn : Nat} {q : Int64} {ν : Nat → Int64} (hw : pr_W T w) (hnn : σ 0 6 = nI nn) (hnn12 : nn ≤ 12) : pr_M g l 1 0 0 mX6_addNode [.ref w, .long q] T (ws_put I w σ) (pr_rowl L (w + 120) ν) (pr_R none T (ws_put I w (w_an σ nn q)) (pr_rowl L (w + 120) (nm_an ν nn q))) pr_no := by
  have h := c_w_an (I := I) (L := pr_rowl L (w + 120) ν) (q := q) hl (g := g) hw hnn hnn12
  have e : (if nI 12 ≤ nI nn then pr_rowl L (w + 120) ν else pr_upl (pr_rowl L (w + 120) ν) (w + 120) nn q) = pr_rowl L (w + 120) (nm_an ν nn q) := by
    unfold nm_an; split
    · rfl
    · rw [lr_upl]
  rw [e] at h; exact h
theorem w_nw_rl_in {σ : pr_I} {ν : Nat → Int64} {nn : Nat} {q : Int64} (h12 : nn ≤ 12) : ∀ (j k : Nat), nn + 1 - k = j → k ≤ nn → w_nw_rl2 σ ν nn q j k = -1 ∨ ∃ i, i < nn ∧ w_nw_rl2 σ ν nn q j k = nI i
  | 0, k, hj, hk => by omega
  | j + 1, k, hj, hk => by
    have ih := fun h : k + 1 ≤ nn => w_nw_rl_in (σ := σ) (ν := ν) (q := q) h12 j (k + 1) (by omega) h
    simp only [w_nw_rl2]
    by_cases c : nI nn ≤ nI k
    · rw [if_pos c]; exact Or.inl rfl
    · have hlt : k < nn := by
        rcases Nat.lt_or_ge k nn with z | z
        · exact z
        · exact absurd ((nI_leI (by omega) (by omega)).mpr z) c
      rw [if_neg c]
      split <;> first | exact ih hlt | exact Or.inr ⟨k, hlt, rfl⟩
theorem w_nw_in {σ : pr_I} {ν : Nat → Int64} {nn : Nat} {q : Int64} (h12 : nn ≤ 12) (h : w_nw_r σ ν nn q ≠ -1) : vp_in (w_nw_r σ ν nn q) 12 := by
  rcases w_nw_rl_in (σ := σ) (ν := ν) (q := q) h12 (nn + 1) 0 (by omega) (by omega) with z | ⟨i, hi, e⟩
  · exact absurd z h
  · unfold w_nw_r; rw [e]; exact nI_vin (by omega) (by decide)
noncomputable def in_kn_r (σ : pr_I) (τ : pr_I) (ν : Nat → Int64) : Int32 := (if (w_nw_r τ ν (ndn τ) (in_rw_r σ)) = ((-1) : Int32) then (w_nw_r τ ν (ndn τ) (in_rw_r σ)) else (w_nw_r τ ν (ndn τ) (in_rw_r σ)))
noncomputable def in_kn (σ : pr_I) (τ : pr_I) (ν : Nat → Int64) : pr_I := (if (w_nw_r τ ν (ndn τ) (in_rw_r σ)) = ((-1) : Int32) then (in_fail (in_rw σ) (3 : Int32) ((in_rw σ) 0 5)) else (in_rw σ))
set_option maxRecDepth 100000 in
set_option maxHeartbeats 400000 in
theorem c_in_kn {g : pr_C} {l : Launch} (hl : l.stackTraces = false) {T : pr_T} {I : pr_I} {L : pr_L} {y : Nat} {σ : pr_I} {τ : pr_I} {ν : Nat → Int64} (hy : pr_In T y) {w : Nat} (hw : pr_W T w) (hdis : y + 2 ≤ w ∨ w + 121 ≤ y) (hI : in_I σ) (hW : wI τ) : pr_M g l 3 0 0 mX1_readKnownNode [.ref y, .ref w] T (rg_put (ws_put I w τ) y 2 σ) (pr_rowl L (w + 120) ν) (pr_R (some (.int (in_kn_r σ τ ν))) T (rg_put (ws_put I w τ) y 2 (in_kn σ τ ν)) (pr_rowl L (w + 120) ν)) pr_no := by
  refine pr_ofG (by decide) rfl hl (Nat.le_of_ble_eq_true rfl) (fun X hA hX hXn hXt => ?_)
  subst hX
  show pr_G g X mX1_readKnownNode.2.2.1 _ 0 0 0 [.ref y, .ref w, .null] [] T (rg_put (ws_put I w τ) y 2 σ) (pr_rowl L (w + 120) ν)
  have hn12 := wI_nn12 hW
  have hl24 := wI_nl24 hW
  refine pr_aload_n hA dX1_readKnownNode_0 rfl ?_
  refine pr_aload_n hA dX1_readKnownNode_1 rfl ?_
  refine pr_callVl hA [] (c_in_rw (y := y) (σ := σ) (pr_hl hA) hy hI) v_X1_49 (in_k0 hy) (by decide) rfl rfl rfl (by decide) (Nat.zero_le _) (Nat.zero_le _) rfl (Nat.le_of_ble_eq_true rfl) dX1_readKnownNode_2 ?_
  refine pr_gI (I' := (ws_put (rg_put I y 2 (in_rw σ)) w τ)) (ws_rg (by omega)) ?_
  refine pr_callVi hA [.long (in_rw_r σ)] (c_w_nw (pr_hl hA) hw lr_row (wI_nn hW) (by omega)) v_X1_103 (wk_0 hw) (by decide) rfl rfl rfl (by decide) (Nat.zero_le _) (Nat.zero_le _) rfl (Nat.le_of_ble_eq_true rfl) dX1_readKnownNode_5 ?_
  refine pr_gI (I' := (rg_put (ws_put I w τ) y 2 (in_rw σ))) (rg_ws (by omega)) ?_
  refine pr_istore_n (ls' := [_, _, _]) hA dX1_readKnownNode_8 (by decide) rfl ?_
  refine pr_iload_n hA dX1_readKnownNode_9 rfl ?_
  refine pr_iconst hA ((-1)) dX1_readKnownNode_10 (by decide) ?_
  refine pr_icmp_ne hA 23 dX1_readKnownNode_11 (by decide) (fun c_11 => ?_) (fun c_11 => ?_)
  · refine pr_iload_n hA dX1_readKnownNode_23 rfl ?_
    exact pr_ireturn hA rfl rfl (Nat.zero_le _) (Nat.zero_le _) dX1_readKnownNode_24 ⟨(by simp only [in_kn_r, if_neg c_11]), rfl, (by simp only [in_kn, if_neg c_11]), rfl⟩
  · refine pr_aload_n hA dX1_readKnownNode_14 rfl ?_
    refine pr_iconst hA (3) dX1_readKnownNode_15 (by decide) ?_
    refine pr_aload_n hA dX1_readKnownNode_16 rfl ?_
    refine pr_getE (v := ((in_rw σ) 0 5)) hA f_X1_28 rfl (in_k0 hy) (rg_val0 (by decide)) dX1_readKnownNode_17 ?_
    refine pr_callVv hA [.int (3 : Int32), .int ((in_rw σ) 0 5)] (c_in_fail (y := y) (σ := (in_rw σ)) (pr_hl hA) hy) v_X1_86 (in_k0 hy) (by decide) rfl rfl rfl (by decide) (Nat.zero_le _) (Nat.zero_le _) rfl (Nat.le_of_ble_eq_true rfl) dX1_readKnownNode_20 ?_
    refine pr_iload_n hA dX1_readKnownNode_23 rfl ?_
    exact pr_ireturn hA rfl rfl (Nat.zero_le _) (Nat.zero_le _) dX1_readKnownNode_24 ⟨(by simp only [in_kn_r, if_pos c_11]), rfl, (by simp only [in_kn, if_pos c_11]), rfl⟩

theorem fr_in_kn {σ : pr_I} {τ : pr_I} {ν : Nat → Int64} {o : Nat} (hms : ∀ m ∈ ([0] : List Nat), o ≠ m) : in_kn σ τ ν o = σ o := by
  unfold in_kn
  simp only [List.mem_cons, List.not_mem_nil, or_false, forall_eq_or_imp, forall_eq] at hms
  by_cases c_11 : (w_nw_r τ ν (ndn τ) (in_rw_r σ)) = ((-1) : Int32)
  · refine (congrFun (if_pos c_11) o).trans ?_
    rw [fr_in_fail (by simp only [List.mem_cons, List.not_mem_nil, or_false, forall_eq_or_imp, forall_eq]; omega), fr_in_rw (by simp only [List.mem_cons, List.not_mem_nil, or_false, forall_eq_or_imp, forall_eq]; omega)]
  · refine (congrFun (if_neg c_11) o).trans ?_
    rw [fr_in_rw (by simp only [List.mem_cons, List.not_mem_nil, or_false, forall_eq_or_imp, forall_eq]; omega)]

noncomputable def in_no (σ : pr_I) (τ : pr_I) (ν : Nat → Int64) (p : Int32) : pr_I := (if (nI (ndn τ)) < (nI 12) then (if (lg_cmp (in_rw_r σ) (0 : Int64)) = 0 then (if ((in_fail (in_rw σ) (3 : Int32) ((in_rw σ) 0 5)) 0 0) = 0 then (in_fail (in_rw σ) (3 : Int32) ((in_rw σ) 0 5)) else (in_fail (in_rw σ) (3 : Int32) ((in_rw σ) 0 5))) else (if (w_nw_r τ ν (ndn τ) (in_rw_r σ)) = ((-1) : Int32) then (if ((in_rw σ) 0 0) = 0 then (in_rw σ) else (in_rw σ)) else (if ((in_fail (in_rw σ) (3 : Int32) ((in_rw σ) 0 5)) 0 0) = 0 then (in_fail (in_rw σ) (3 : Int32) ((in_rw σ) 0 5)) else (in_fail (in_rw σ) (3 : Int32) ((in_rw σ) 0 5))))) else (in_fail σ (4 : Int32) p))
noncomputable def in_no_w (τ : pr_I) (σ : pr_I) (ν : Nat → Int64) (p : Int32) : pr_I := (if (nI (ndn τ)) < (nI 12) then (if (lg_cmp (in_rw_r σ) (0 : Int64)) = 0 then (if ((in_fail (in_rw σ) (3 : Int32) ((in_rw σ) 0 5)) 0 0) = 0 then (w_an τ (ndn τ) (in_rw_r σ)) else τ) else (if (w_nw_r τ ν (ndn τ) (in_rw_r σ)) = ((-1) : Int32) then (if ((in_rw σ) 0 0) = 0 then (w_an τ (ndn τ) (in_rw_r σ)) else τ) else (if ((in_fail (in_rw σ) (3 : Int32) ((in_rw σ) 0 5)) 0 0) = 0 then (w_an τ (ndn τ) (in_rw_r σ)) else τ))) else τ)
noncomputable def in_no_nu (σ : pr_I) (τ : pr_I) (ν : Nat → Int64) (p : Int32) : Nat → Int64 := (if (nI (ndn τ)) < (nI 12) then (if (lg_cmp (in_rw_r σ) (0 : Int64)) = 0 then (if ((in_fail (in_rw σ) (3 : Int32) ((in_rw σ) 0 5)) 0 0) = 0 then (nm_an ν (ndn τ) (in_rw_r σ)) else ν) else (if (w_nw_r τ ν (ndn τ) (in_rw_r σ)) = ((-1) : Int32) then (if ((in_rw σ) 0 0) = 0 then (nm_an ν (ndn τ) (in_rw_r σ)) else ν) else (if ((in_fail (in_rw σ) (3 : Int32) ((in_rw σ) 0 5)) 0 0) = 0 then (nm_an ν (ndn τ) (in_rw_r σ)) else ν))) else ν)
set_option maxRecDepth 100000 in
set_option maxHeartbeats 400000 in
theorem c_in_no {g : pr_C} {l : Launch} (hl : l.stackTraces = false) {T : pr_T} {I : pr_I} {L : pr_L} {y : Nat} {σ : pr_I} {τ : pr_I} {ν : Nat → Int64} {p : Int32} (hy : pr_In T y) {w : Nat} (hw : pr_W T w) (hdis : y + 2 ≤ w ∨ w + 121 ≤ y) (hI : in_I σ) (hW : wI τ) : pr_M g l 3 0 0 mX1_readNode [.ref y, .ref w, .int p] T (rg_put (ws_put I w τ) y 2 σ) (pr_rowl L (w + 120) ν) (pr_R none T (rg_put (ws_put I w (in_no_w τ σ ν p)) y 2 (in_no σ τ ν p)) (pr_rowl L (w + 120) (in_no_nu σ τ ν p))) pr_no := by
  refine pr_ofG (by decide) rfl hl (Nat.le_of_ble_eq_true rfl) (fun X hA hX hXn hXt => ?_)
  subst hX
  show pr_G g X mX1_readNode.2.2.1 _ 0 0 0 [.ref y, .ref w, .int p, .null, .null] [] T (rg_put (ws_put I w τ) y 2 σ) (pr_rowl L (w + 120) ν)
  have hn12 := wI_nn12 hW
  have hl24 := wI_nl24 hW
  refine pr_aload_n hA dX1_readNode_0 rfl ?_
  refine pr_getE (v := (nI (ndn τ))) hA f_X1_100 rfl (wk_0 hw) ((rg_outv (by omega)).trans (ws_val0.trans (wI_nn hW))) dX1_readNode_1 ?_
  refine pr_bipush hA (nI 12) dX1_readNode_4 (by decide) ?_
  refine pr_icmp_lt hA 16 dX1_readNode_6 (by decide) (fun c_6 => ?_) (fun c_6 => ?_)
  · have n_6 : (ndn τ) < 12 := (nI_ltI (by omega) (by omega)).mp c_6
    refine pr_aload_n hA dX1_readNode_16 rfl ?_
    refine pr_callVl hA [] (c_in_rw (y := y) (σ := σ) (pr_hl hA) hy hI) v_X1_49 (in_k0 hy) (by decide) rfl rfl rfl (by decide) (Nat.zero_le _) (Nat.zero_le _) rfl (Nat.le_of_ble_eq_true rfl) dX1_readNode_17 ?_
    refine pr_lstore_n (ls' := [_, _, _, _, _]) hA dX1_readNode_20 (by decide) rfl ?_
    refine pr_lload_n hA dX1_readNode_21 rfl ?_
    refine pr_lconst hA 0 dX1_readNode_22 (by decide) ?_
    refine pr_lcmp hA dX1_readNode_23 ?_
    refine pr_if_eq hA 36 dX1_readNode_24 (by decide) (fun c_24 => ?_) (fun c_24 => ?_)
    · refine pr_aload_n hA dX1_readNode_36 rfl ?_
      refine pr_iconst hA (3) dX1_readNode_37 (by decide) ?_
      refine pr_aload_n hA dX1_readNode_38 rfl ?_
      refine pr_getE (v := ((in_rw σ) 0 5)) hA f_X1_28 rfl (in_k0 hy) (rg_val0 (by decide)) dX1_readNode_39 ?_
      refine pr_callVv hA [.int (3 : Int32), .int ((in_rw σ) 0 5)] (c_in_fail (y := y) (σ := (in_rw σ)) (pr_hl hA) hy) v_X1_86 (in_k0 hy) (by decide) rfl rfl rfl (by decide) (Nat.zero_le _) (Nat.zero_le _) rfl (Nat.le_of_ble_eq_true rfl) dX1_readNode_42 ?_
      refine pr_aload_n hA dX1_readNode_45 rfl ?_
      refine pr_getE (v := ((in_fail (in_rw σ) (3 : Int32) ((in_rw σ) 0 5)) 0 0)) hA f_X1_9 rfl (in_k0 hy) (rg_val0 (by decide)) dX1_readNode_46 ?_
      refine pr_if_ne hA 57 dX1_readNode_49 (by decide) (fun c_49 => ?_) (fun c_49 => ?_)
      · exact pr_return hA rfl (Nat.zero_le _) (Nat.zero_le _) dX1_readNode_57 ⟨rfl, rfl, (by simp only [in_no, in_no_w, if_pos c_6, if_pos c_24, if_neg c_49]), (by simp only [in_no_nu, if_pos c_6, if_pos c_24, if_neg c_49])⟩
      · refine pr_aload_n hA dX1_readNode_52 rfl ?_
        refine pr_lload_n hA dX1_readNode_53 rfl ?_
        refine pr_gI (I' := (ws_put (rg_put I y 2 (in_fail (in_rw σ) (3 : Int32) ((in_rw σ) 0 5))) w τ)) (ws_rg (by omega)) ?_
        refine pr_callVv hA [.long (in_rw_r σ)] (c_w_anE (pr_hl hA) hw (wI_nn hW) (by omega)) v_X1_106 (wk_0 hw) (by decide) rfl rfl rfl (by decide) (Nat.zero_le _) (Nat.zero_le _) rfl (Nat.le_of_ble_eq_true rfl) dX1_readNode_54 ?_
        refine pr_gI (I' := (rg_put (ws_put I w (w_an τ (ndn τ) (in_rw_r σ))) y 2 (in_fail (in_rw σ) (3 : Int32) ((in_rw σ) 0 5)))) (rg_ws (by omega)) ?_
        exact pr_return hA rfl (Nat.zero_le _) (Nat.zero_le _) dX1_readNode_57 ⟨rfl, rfl, (by simp only [in_no, in_no_w, if_pos c_6, if_pos c_24, if_pos c_49]), (by simp only [in_no_nu, if_pos c_6, if_pos c_24, if_pos c_49])⟩
    · refine pr_aload_n hA dX1_readNode_27 rfl ?_
      refine pr_lload_n hA dX1_readNode_28 rfl ?_
      refine pr_gI (I' := (ws_put (rg_put I y 2 (in_rw σ)) w τ)) (ws_rg (by omega)) ?_
      refine pr_callVi hA [.long (in_rw_r σ)] (c_w_nw (pr_hl hA) hw lr_row (wI_nn hW) (by omega)) v_X1_103 (wk_0 hw) (by decide) rfl rfl rfl (by decide) (Nat.zero_le _) (Nat.zero_le _) rfl (Nat.le_of_ble_eq_true rfl) dX1_readNode_29 ?_
      refine pr_gI (I' := (rg_put (ws_put I w τ) y 2 (in_rw σ))) (rg_ws (by omega)) ?_
      refine pr_iconst hA ((-1)) dX1_readNode_32 (by decide) ?_
      refine pr_icmp_eq hA 45 dX1_readNode_33 (by decide) (fun c_33 => ?_) (fun c_33 => ?_)
      · refine pr_aload_n hA dX1_readNode_45 rfl ?_
        refine pr_getE (v := ((in_rw σ) 0 0)) hA f_X1_9 rfl (in_k0 hy) (rg_val0 (by decide)) dX1_readNode_46 ?_
        refine pr_if_ne hA 57 dX1_readNode_49 (by decide) (fun c_49 => ?_) (fun c_49 => ?_)
        · exact pr_return hA rfl (Nat.zero_le _) (Nat.zero_le _) dX1_readNode_57 ⟨rfl, rfl, (by simp only [in_no, in_no_w, if_pos c_6, if_neg c_24, if_pos c_33, if_neg c_49]), (by simp only [in_no_nu, if_pos c_6, if_neg c_24, if_pos c_33, if_neg c_49])⟩
        · refine pr_aload_n hA dX1_readNode_52 rfl ?_
          refine pr_lload_n hA dX1_readNode_53 rfl ?_
          refine pr_gI (I' := (ws_put (rg_put I y 2 (in_rw σ)) w τ)) (ws_rg (by omega)) ?_
          refine pr_callVv hA [.long (in_rw_r σ)] (c_w_anE (pr_hl hA) hw (wI_nn hW) (by omega)) v_X1_106 (wk_0 hw) (by decide) rfl rfl rfl (by decide) (Nat.zero_le _) (Nat.zero_le _) rfl (Nat.le_of_ble_eq_true rfl) dX1_readNode_54 ?_
          refine pr_gI (I' := (rg_put (ws_put I w (w_an τ (ndn τ) (in_rw_r σ))) y 2 (in_rw σ))) (rg_ws (by omega)) ?_
          exact pr_return hA rfl (Nat.zero_le _) (Nat.zero_le _) dX1_readNode_57 ⟨rfl, rfl, (by simp only [in_no, in_no_w, if_pos c_6, if_neg c_24, if_pos c_33, if_pos c_49]), (by simp only [in_no_nu, if_pos c_6, if_neg c_24, if_pos c_33, if_pos c_49])⟩
      · refine pr_aload_n hA dX1_readNode_36 rfl ?_
        refine pr_iconst hA (3) dX1_readNode_37 (by decide) ?_
        refine pr_aload_n hA dX1_readNode_38 rfl ?_
        refine pr_getE (v := ((in_rw σ) 0 5)) hA f_X1_28 rfl (in_k0 hy) (rg_val0 (by decide)) dX1_readNode_39 ?_
        refine pr_callVv hA [.int (3 : Int32), .int ((in_rw σ) 0 5)] (c_in_fail (y := y) (σ := (in_rw σ)) (pr_hl hA) hy) v_X1_86 (in_k0 hy) (by decide) rfl rfl rfl (by decide) (Nat.zero_le _) (Nat.zero_le _) rfl (Nat.le_of_ble_eq_true rfl) dX1_readNode_42 ?_
        refine pr_aload_n hA dX1_readNode_45 rfl ?_
        refine pr_getE (v := ((in_fail (in_rw σ) (3 : Int32) ((in_rw σ) 0 5)) 0 0)) hA f_X1_9 rfl (in_k0 hy) (rg_val0 (by decide)) dX1_readNode_46 ?_
        refine pr_if_ne hA 57 dX1_readNode_49 (by decide) (fun c_49 => ?_) (fun c_49 => ?_)
        · exact pr_return hA rfl (Nat.zero_le _) (Nat.zero_le _) dX1_readNode_57 ⟨rfl, rfl, (by simp only [in_no, in_no_w, if_pos c_6, if_neg c_24, if_neg c_33, if_neg c_49]), (by simp only [in_no_nu, if_pos c_6, if_neg c_24, if_neg c_33, if_neg c_49])⟩
        · refine pr_aload_n hA dX1_readNode_52 rfl ?_
          refine pr_lload_n hA dX1_readNode_53 rfl ?_
          refine pr_gI (I' := (ws_put (rg_put I y 2 (in_fail (in_rw σ) (3 : Int32) ((in_rw σ) 0 5))) w τ)) (ws_rg (by omega)) ?_
          refine pr_callVv hA [.long (in_rw_r σ)] (c_w_anE (pr_hl hA) hw (wI_nn hW) (by omega)) v_X1_106 (wk_0 hw) (by decide) rfl rfl rfl (by decide) (Nat.zero_le _) (Nat.zero_le _) rfl (Nat.le_of_ble_eq_true rfl) dX1_readNode_54 ?_
          refine pr_gI (I' := (rg_put (ws_put I w (w_an τ (ndn τ) (in_rw_r σ))) y 2 (in_fail (in_rw σ) (3 : Int32) ((in_rw σ) 0 5)))) (rg_ws (by omega)) ?_
          exact pr_return hA rfl (Nat.zero_le _) (Nat.zero_le _) dX1_readNode_57 ⟨rfl, rfl, (by simp only [in_no, in_no_w, if_pos c_6, if_neg c_24, if_neg c_33, if_pos c_49]), (by simp only [in_no_nu, if_pos c_6, if_neg c_24, if_neg c_33, if_pos c_49])⟩
  · have n_6 : ¬ (ndn τ) < 12 := fun q => c_6 ((nI_ltI (by omega) (by omega)).mpr q)
    refine pr_aload_n hA dX1_readNode_9 rfl ?_
    refine pr_iconst hA (4) dX1_readNode_10 (by decide) ?_
    refine pr_iload_n hA dX1_readNode_11 rfl ?_
    refine pr_callVv hA [.int (4 : Int32), .int p] (c_in_fail (y := y) (σ := σ) (pr_hl hA) hy) v_X1_86 (in_k0 hy) (by decide) rfl rfl rfl (by decide) (Nat.zero_le _) (Nat.zero_le _) rfl (Nat.le_of_ble_eq_true rfl) dX1_readNode_12 ?_
    exact pr_return hA rfl (Nat.zero_le _) (Nat.zero_le _) dX1_readNode_15 ⟨rfl, rfl, (by simp only [in_no, in_no_w, if_neg c_6]), (by simp only [in_no_nu, if_neg c_6])⟩

theorem fr_in_no {σ : pr_I} {τ : pr_I} {ν : Nat → Int64} {p : Int32} {o : Nat} (hms : ∀ m ∈ ([0] : List Nat), o ≠ m) : in_no σ τ ν p o = σ o := by
  unfold in_no
  simp only [List.mem_cons, List.not_mem_nil, or_false, forall_eq_or_imp, forall_eq] at hms
  by_cases c_6 : (nI (ndn τ)) < (nI 12)
  · refine (congrFun (if_pos c_6) o).trans ?_
    by_cases c_24 : (lg_cmp (in_rw_r σ) (0 : Int64)) = 0
    · refine (congrFun (if_pos c_24) o).trans ?_
      by_cases c_49 : ((in_fail (in_rw σ) (3 : Int32) ((in_rw σ) 0 5)) 0 0) = 0
      · refine (congrFun (if_pos c_49) o).trans ?_
        rw [fr_in_fail (by simp only [List.mem_cons, List.not_mem_nil, or_false, forall_eq_or_imp, forall_eq]; omega), fr_in_rw (by simp only [List.mem_cons, List.not_mem_nil, or_false, forall_eq_or_imp, forall_eq]; omega)]
      · refine (congrFun (if_neg c_49) o).trans ?_
        rw [fr_in_fail (by simp only [List.mem_cons, List.not_mem_nil, or_false, forall_eq_or_imp, forall_eq]; omega), fr_in_rw (by simp only [List.mem_cons, List.not_mem_nil, or_false, forall_eq_or_imp, forall_eq]; omega)]
    · refine (congrFun (if_neg c_24) o).trans ?_
      by_cases c_33 : (w_nw_r τ ν (ndn τ) (in_rw_r σ)) = ((-1) : Int32)
      · refine (congrFun (if_pos c_33) o).trans ?_
        by_cases c_49 : ((in_rw σ) 0 0) = 0
        · refine (congrFun (if_pos c_49) o).trans ?_
          rw [fr_in_rw (by simp only [List.mem_cons, List.not_mem_nil, or_false, forall_eq_or_imp, forall_eq]; omega)]
        · refine (congrFun (if_neg c_49) o).trans ?_
          rw [fr_in_rw (by simp only [List.mem_cons, List.not_mem_nil, or_false, forall_eq_or_imp, forall_eq]; omega)]
      · refine (congrFun (if_neg c_33) o).trans ?_
        by_cases c_49 : ((in_fail (in_rw σ) (3 : Int32) ((in_rw σ) 0 5)) 0 0) = 0
        · refine (congrFun (if_pos c_49) o).trans ?_
          rw [fr_in_fail (by simp only [List.mem_cons, List.not_mem_nil, or_false, forall_eq_or_imp, forall_eq]; omega), fr_in_rw (by simp only [List.mem_cons, List.not_mem_nil, or_false, forall_eq_or_imp, forall_eq]; omega)]
        · refine (congrFun (if_neg c_49) o).trans ?_
          rw [fr_in_fail (by simp only [List.mem_cons, List.not_mem_nil, or_false, forall_eq_or_imp, forall_eq]; omega), fr_in_rw (by simp only [List.mem_cons, List.not_mem_nil, or_false, forall_eq_or_imp, forall_eq]; omega)]
  · refine (congrFun (if_neg c_6) o).trans ?_
    rw [fr_in_fail (by simp only [List.mem_cons, List.not_mem_nil, or_false, forall_eq_or_imp, forall_eq]; omega)]

theorem fr_in_no_w {τ : pr_I} {σ : pr_I} {ν : Nat → Int64} {p : Int32} {o : Nat} (hms : ∀ m ∈ ([0] : List Nat), o ≠ m) : in_no_w τ σ ν p o = τ o := by
  unfold in_no_w
  simp only [List.mem_cons, List.not_mem_nil, or_false, forall_eq_or_imp, forall_eq] at hms
  by_cases c_6 : (nI (ndn τ)) < (nI 12)
  · refine (congrFun (if_pos c_6) o).trans ?_
    by_cases c_24 : (lg_cmp (in_rw_r σ) (0 : Int64)) = 0
    · refine (congrFun (if_pos c_24) o).trans ?_
      by_cases c_49 : ((in_fail (in_rw σ) (3 : Int32) ((in_rw σ) 0 5)) 0 0) = 0
      · refine (congrFun (if_pos c_49) o).trans ?_
        rw [fr_w_an (by simp only [List.mem_cons, List.not_mem_nil, or_false, forall_eq_or_imp, forall_eq]; omega)]
      · refine (congrFun (if_neg c_49) o).trans ?_
        rfl
    · refine (congrFun (if_neg c_24) o).trans ?_
      by_cases c_33 : (w_nw_r τ ν (ndn τ) (in_rw_r σ)) = ((-1) : Int32)
      · refine (congrFun (if_pos c_33) o).trans ?_
        by_cases c_49 : ((in_rw σ) 0 0) = 0
        · refine (congrFun (if_pos c_49) o).trans ?_
          rw [fr_w_an (by simp only [List.mem_cons, List.not_mem_nil, or_false, forall_eq_or_imp, forall_eq]; omega)]
        · refine (congrFun (if_neg c_49) o).trans ?_
          rfl
      · refine (congrFun (if_neg c_33) o).trans ?_
        by_cases c_49 : ((in_fail (in_rw σ) (3 : Int32) ((in_rw σ) 0 5)) 0 0) = 0
        · refine (congrFun (if_pos c_49) o).trans ?_
          rw [fr_w_an (by simp only [List.mem_cons, List.not_mem_nil, or_false, forall_eq_or_imp, forall_eq]; omega)]
        · refine (congrFun (if_neg c_49) o).trans ?_
          rfl
  · refine (congrFun (if_neg c_6) o).trans ?_
    rfl

theorem wI_w_an {σ : pr_I} {nn : Nat} {q : Int64} (h : wI σ) (hnn12 : nn ≤ 12) : wI (w_an σ nn q) := by
  unfold w_an
  by_cases c : nI 12 ≤ nI nn
  · rw [if_pos c]; exact h
  · rw [if_neg c]
    have : nn < 12 := by
      rcases Nat.lt_or_ge nn 12 with z | z
      · exact z
      · exact absurd ((nI_leI (by omega) (by omega)).mpr z) c
    exact wI.upv h rfl (nI_vin (by omega) (by decide))
theorem I_ite {P : pr_I → Prop} {c : Prop} [Decidable c] {a b : pr_I} (ha : P a) (hb : P b) : P (if c then a else b) := by by_cases q : c <;> simp only [q, if_true, if_false] <;> assumption
theorem inI_in_kn {σ τ : pr_I} {ν : Nat → Int64} (h : in_I σ) : in_I (in_kn σ τ ν) := by
  unfold in_kn
  exact (I_ite (P := in_I) (inI_in_fail (inI_in_rw h)) (inI_in_rw h))
theorem inI_in_no {σ τ : pr_I} {ν : Nat → Int64} {p : Int32} (h : in_I σ) : in_I (in_no σ τ ν p) := by
  unfold in_no
  exact (I_ite (P := in_I) (I_ite (P := in_I) (I_ite (P := in_I) (inI_in_fail (inI_in_rw h)) (inI_in_fail (inI_in_rw h))) (I_ite (P := in_I) (I_ite (P := in_I) (inI_in_rw h) (inI_in_rw h)) (I_ite (P := in_I) (inI_in_fail (inI_in_rw h)) (inI_in_fail (inI_in_rw h))))) (inI_in_fail h))
theorem wI_in_no_w {σ τ : pr_I} {ν : Nat → Int64} {p : Int32} (h : wI τ) : wI (in_no_w τ σ ν p) := by
  have h1 : ∀ q, wI (w_an τ (ndn τ) q) := fun q => wI_w_an h (wI_nn12 h)
  unfold in_no_w
  exact (I_ite (P := wI) (I_ite (P := wI) (I_ite (P := wI) (h1 _) h) (I_ite (P := wI) (I_ite (P := wI) (h1 _) h) (I_ite (P := wI) (h1 _) h))) h)
noncomputable def in_so_r (σ : pr_I) (q : Int64) : Int32 := (if (lg_cmp q (pk 2)) = 0 then (0 : Int32) else (if (lg_cmp q (pk 3)) = 0 then (1 : Int32) else (if (lg_cmp q (pk 4)) = 0 then (2 : Int32) else (if (lg_cmp q (pk 5)) = 0 then (3 : Int32) else (if (lg_cmp q (pk 6)) = 0 then (4 : Int32) else ((-1) : Int32))))))
set_option maxRecDepth 100000 in
set_option maxHeartbeats 400000 in
theorem c_in_so {g : pr_C} {l : Launch} (hl : l.stackTraces = false) {T : pr_T} {I : pr_I} {L : pr_L} {y : Nat} {σ : pr_I} {q : Int64} (hy : pr_In T y)  : pr_M g l 6 0 0 mX1_settingOf [.long q] T (rg_put I y 2 σ) L (pr_R (some (.int (in_so_r σ q))) T (rg_put I y 2 σ) L) pr_no := by
  refine pr_ofG (by decide) rfl hl (Nat.le_of_ble_eq_true rfl) (fun X hA hX hXn hXt => ?_)
  subst hX
  show pr_G g X mX1_settingOf.2.2.1 _ 0 0 0 [.long q, .null] [] T (rg_put I y 2 σ) L
  refine pr_lload_n hA dX1_settingOf_0 rfl ?_
  refine pr_lds (k := 2) (tx := "hold") hA (by decide +kernel) dX1_settingOf_1 ?_
  refine pr_callSl hA [.ref (pr_ak g 2)] (c_packed (k := 2) (pr_hl hA) (by omega)) s_X1_59 rfl (by decide) (Nat.zero_le _) (Nat.zero_le _) rfl (Nat.le_of_ble_eq_true rfl) dX1_settingOf_3 ?_
  refine pr_lcmp hA dX1_settingOf_6 ?_
  refine pr_if_ne hA 12 dX1_settingOf_7 (by decide) (fun c_7 => ?_) (fun c_7 => ?_)
  · refine pr_lload_n hA dX1_settingOf_12 rfl ?_
    refine pr_lds (k := 3) (tx := "retry") hA (by decide +kernel) dX1_settingOf_13 ?_
    refine pr_callSl hA [.ref (pr_ak g 3)] (c_packed (k := 3) (pr_hl hA) (by omega)) s_X1_59 rfl (by decide) (Nat.zero_le _) (Nat.zero_le _) rfl (Nat.le_of_ble_eq_true rfl) dX1_settingOf_15 ?_
    refine pr_lcmp hA dX1_settingOf_18 ?_
    refine pr_if_ne hA 24 dX1_settingOf_19 (by decide) (fun c_19 => ?_) (fun c_19 => ?_)
    · refine pr_lload_n hA dX1_settingOf_24 rfl ?_
      refine pr_lds (k := 4) (tx := "tries") hA (by decide +kernel) dX1_settingOf_25 ?_
      refine pr_callSl hA [.ref (pr_ak g 4)] (c_packed (k := 4) (pr_hl hA) (by omega)) s_X1_59 rfl (by decide) (Nat.zero_le _) (Nat.zero_le _) rfl (Nat.le_of_ble_eq_true rfl) dX1_settingOf_27 ?_
      refine pr_lcmp hA dX1_settingOf_30 ?_
      refine pr_if_ne hA 36 dX1_settingOf_31 (by decide) (fun c_31 => ?_) (fun c_31 => ?_)
      · refine pr_lload_n hA dX1_settingOf_36 rfl ?_
        refine pr_lds (k := 5) (tx := "expire") hA (by decide +kernel) dX1_settingOf_37 ?_
        refine pr_callSl hA [.ref (pr_ak g 5)] (c_packed (k := 5) (pr_hl hA) (by omega)) s_X1_59 rfl (by decide) (Nat.zero_le _) (Nat.zero_le _) rfl (Nat.le_of_ble_eq_true rfl) dX1_settingOf_39 ?_
        refine pr_lcmp hA dX1_settingOf_42 ?_
        refine pr_if_ne hA 48 dX1_settingOf_43 (by decide) (fun c_43 => ?_) (fun c_43 => ?_)
        · refine pr_lload_n hA dX1_settingOf_48 rfl ?_
          refine pr_lds (k := 6) (tx := "cancel") hA (by decide +kernel) dX1_settingOf_49 ?_
          refine pr_callSl hA [.ref (pr_ak g 6)] (c_packed (k := 6) (pr_hl hA) (by omega)) s_X1_59 rfl (by decide) (Nat.zero_le _) (Nat.zero_le _) rfl (Nat.le_of_ble_eq_true rfl) dX1_settingOf_51 ?_
          refine pr_lcmp hA dX1_settingOf_54 ?_
          refine pr_join (c := (lg_cmp q (pk 6)) = 0) (J := 63) (st := []) (4 : Int32) ((-1) : Int32) inferInstance (fun kt kf => ?_) ?_
          · refine pr_if_ne hA 62 dX1_settingOf_55 (by decide) (fun c_55 => ?_) (fun c_55 => ?_)
            · refine pr_iconst hA ((-1)) dX1_settingOf_62 (by decide) ?_
              exact kf c_55
            · refine pr_iconst hA (4) dX1_settingOf_58 (by decide) ?_
              refine pr_goto hA 63 dX1_settingOf_59 (by decide) ?_
              exact kt c_55
          · exact pr_ireturn hA rfl rfl (Nat.zero_le _) (Nat.zero_le _) dX1_settingOf_63 ⟨(by simp only [in_so_r, if_neg c_7, if_neg c_19, if_neg c_31, if_neg c_43]), rfl, rfl, rfl⟩
        · refine pr_iconst hA (3) dX1_settingOf_46 (by decide) ?_
          exact pr_ireturn hA rfl rfl (Nat.zero_le _) (Nat.zero_le _) dX1_settingOf_47 ⟨(by simp only [in_so_r, if_neg c_7, if_neg c_19, if_neg c_31, if_pos c_43]), rfl, rfl, rfl⟩
      · refine pr_iconst hA (2) dX1_settingOf_34 (by decide) ?_
        exact pr_ireturn hA rfl rfl (Nat.zero_le _) (Nat.zero_le _) dX1_settingOf_35 ⟨(by simp only [in_so_r, if_neg c_7, if_neg c_19, if_pos c_31]), rfl, rfl, rfl⟩
    · refine pr_iconst hA (1) dX1_settingOf_22 (by decide) ?_
      exact pr_ireturn hA rfl rfl (Nat.zero_le _) (Nat.zero_le _) dX1_settingOf_23 ⟨(by simp only [in_so_r, if_neg c_7, if_pos c_19]), rfl, rfl, rfl⟩
  · refine pr_iconst hA (0) dX1_settingOf_10 (by decide) ?_
    exact pr_ireturn hA rfl rfl (Nat.zero_le _) (Nat.zero_le _) dX1_settingOf_11 ⟨(by simp only [in_so_r, if_pos c_7]), rfl, rfl, rfl⟩

theorem in_so_in {σ : pr_I} {q : Int64} (h : in_so_r σ q ≠ -1) : vp_in (in_so_r σ q) 5 := by
  have : in_so_r σ q = -1 ∨ vp_in (in_so_r σ q) 5 := by
    unfold in_so_r
    refine or_ite (P := fun x => x = -1 ∨ vp_in x 5) (Or.inr (nI_vin (k := 0) (by decide) (by decide))) (or_ite (P := fun x => x = -1 ∨ vp_in x 5) (Or.inr (nI_vin (k := 1) (by decide) (by decide))) (or_ite (P := fun x => x = -1 ∨ vp_in x 5) (Or.inr (nI_vin (k := 2) (by decide) (by decide))) (or_ite (P := fun x => x = -1 ∨ vp_in x 5) (Or.inr (nI_vin (k := 3) (by decide) (by decide))) (or_ite (P := fun x => x = -1 ∨ vp_in x 5) (Or.inr (nI_vin (k := 4) (by decide) (by decide))) (Or.inl rfl)))))
  exact this.resolve_left h
noncomputable def in_li (σ : pr_I) (τ : pr_I) (ν : Nat → Int64) (p : Int32) : pr_I := (if (nI (lkn τ)) < (nI 24) then (if (in_kn_r σ τ ν) = (in_kn_r (in_kn σ τ ν) τ ν) then (if ((in_rn (in_rn (in_rn (in_fail (in_kn (in_kn σ τ ν) τ ν) (3 : Int32) ((in_kn (in_kn σ τ ν) τ ν) 0 5)) (0 : Int32) (1000 : Int32)) (0 : Int32) (1000 : Int32)) (1 : Int32) (50 : Int32)) 0 0) = 0 then (in_rn (in_rn (in_rn (in_fail (in_kn (in_kn σ τ ν) τ ν) (3 : Int32) ((in_kn (in_kn σ τ ν) τ ν) 0 5)) (0 : Int32) (1000 : Int32)) (0 : Int32) (1000 : Int32)) (1 : Int32) (50 : Int32)) else (in_rn (in_rn (in_rn (in_fail (in_kn (in_kn σ τ ν) τ ν) (3 : Int32) ((in_kn (in_kn σ τ ν) τ ν) 0 5)) (0 : Int32) (1000 : Int32)) (0 : Int32) (1000 : Int32)) (1 : Int32) (50 : Int32))) else (if ((in_rn (in_rn (in_rn (in_kn (in_kn σ τ ν) τ ν) (0 : Int32) (1000 : Int32)) (0 : Int32) (1000 : Int32)) (1 : Int32) (50 : Int32)) 0 0) = 0 then (in_rn (in_rn (in_rn (in_kn (in_kn σ τ ν) τ ν) (0 : Int32) (1000 : Int32)) (0 : Int32) (1000 : Int32)) (1 : Int32) (50 : Int32)) else (in_rn (in_rn (in_rn (in_kn (in_kn σ τ ν) τ ν) (0 : Int32) (1000 : Int32)) (0 : Int32) (1000 : Int32)) (1 : Int32) (50 : Int32)))) else (in_fail σ (4 : Int32) p))
noncomputable def in_li_w (τ : pr_I) (σ : pr_I) (ν : Nat → Int64) (p : Int32) : pr_I := (if (nI (lkn τ)) < (nI 24) then (if (in_kn_r σ τ ν) = (in_kn_r (in_kn σ τ ν) τ ν) then (if ((in_rn (in_rn (in_rn (in_fail (in_kn (in_kn σ τ ν) τ ν) (3 : Int32) ((in_kn (in_kn σ τ ν) τ ν) 0 5)) (0 : Int32) (1000 : Int32)) (0 : Int32) (1000 : Int32)) (1 : Int32) (50 : Int32)) 0 0) = 0 then (lk_add τ (lkn τ) (in_kn_r σ τ ν) (in_kn_r (in_kn σ τ ν) τ ν) (in_rn_r (in_fail (in_kn (in_kn σ τ ν) τ ν) (3 : Int32) ((in_kn (in_kn σ τ ν) τ ν) 0 5)) (0 : Int32) (1000 : Int32)) (in_rn_r (in_rn (in_fail (in_kn (in_kn σ τ ν) τ ν) (3 : Int32) ((in_kn (in_kn σ τ ν) τ ν) 0 5)) (0 : Int32) (1000 : Int32)) (0 : Int32) (1000 : Int32)) (in_rn_r (in_rn (in_rn (in_fail (in_kn (in_kn σ τ ν) τ ν) (3 : Int32) ((in_kn (in_kn σ τ ν) τ ν) 0 5)) (0 : Int32) (1000 : Int32)) (0 : Int32) (1000 : Int32)) (1 : Int32) (50 : Int32))) else τ) else (if ((in_rn (in_rn (in_rn (in_kn (in_kn σ τ ν) τ ν) (0 : Int32) (1000 : Int32)) (0 : Int32) (1000 : Int32)) (1 : Int32) (50 : Int32)) 0 0) = 0 then (lk_add τ (lkn τ) (in_kn_r σ τ ν) (in_kn_r (in_kn σ τ ν) τ ν) (in_rn_r (in_kn (in_kn σ τ ν) τ ν) (0 : Int32) (1000 : Int32)) (in_rn_r (in_rn (in_kn (in_kn σ τ ν) τ ν) (0 : Int32) (1000 : Int32)) (0 : Int32) (1000 : Int32)) (in_rn_r (in_rn (in_rn (in_kn (in_kn σ τ ν) τ ν) (0 : Int32) (1000 : Int32)) (0 : Int32) (1000 : Int32)) (1 : Int32) (50 : Int32))) else τ)) else τ)
set_option maxRecDepth 100000 in
set_option maxHeartbeats 400000 in
theorem c_in_li {g : pr_C} {l : Launch} (hl : l.stackTraces = false) {T : pr_T} {I : pr_I} {L : pr_L} {y : Nat} {σ : pr_I} {τ : pr_I} {ν : Nat → Int64} {p : Int32} (hy : pr_In T y) {w : Nat} (hw : pr_W T w) (hdis : y + 2 ≤ w ∨ w + 121 ≤ y) (hI : in_I σ) (hW : wI τ) : pr_M g l 4 0 0 mX1_readLink [.ref y, .ref w, .int p] T (rg_put (ws_put I w τ) y 2 σ) (pr_rowl L (w + 120) ν) (pr_R none T (rg_put (ws_put I w (in_li_w τ σ ν p)) y 2 (in_li σ τ ν p)) (pr_rowl L (w + 120) ν)) pr_no := by
  refine pr_ofG (by decide) rfl hl (Nat.le_of_ble_eq_true rfl) (fun X hA hX hXn hXt => ?_)
  subst hX
  show pr_G g X mX1_readLink.2.2.1 _ 0 0 0 [.ref y, .ref w, .int p, .null, .null, .null, .null, .null] [] T (rg_put (ws_put I w τ) y 2 σ) (pr_rowl L (w + 120) ν)
  have hn12 := wI_nn12 hW
  have hl24 := wI_nl24 hW
  refine pr_aload_n hA dX1_readLink_0 rfl ?_
  refine pr_getR hA f_X1_110 rfl (wk_0 hw) (wf_0_0 hw) dX1_readLink_1 ?_
  refine pr_getE (v := (nI (lkn τ))) hA f_X1_114 rfl (wk_1 hw) ((rg_outv (by omega)).trans ((ws_val (by decide)).trans (wI_nl hW))) dX1_readLink_4 ?_
  refine pr_bipush hA (nI 24) dX1_readLink_7 (by decide) ?_
  refine pr_icmp_lt hA 19 dX1_readLink_9 (by decide) (fun c_9 => ?_) (fun c_9 => ?_)
  · have n_9 : (lkn τ) < 24 := (nI_ltI (by omega) (by omega)).mp c_9
    refine pr_aload_n hA dX1_readLink_19 rfl ?_
    refine pr_aload_n hA dX1_readLink_20 rfl ?_
    refine pr_callVi hA [.ref w] (c_in_kn (y := y) (σ := σ) (τ := τ) (ν := ν) (pr_hl hA) hy hw hdis hI hW) v_X1_119 (in_k0 hy) (by decide) rfl rfl rfl (by decide) (Nat.zero_le _) (Nat.zero_le _) rfl (Nat.le_of_ble_eq_true rfl) dX1_readLink_21 ?_
    refine pr_istore_n (ls' := [_, _, _, _, _, _, _, _]) hA dX1_readLink_24 (by decide) rfl ?_
    refine pr_aload_n hA dX1_readLink_25 rfl ?_
    refine pr_aload_n hA dX1_readLink_26 rfl ?_
    refine pr_callVi hA [.ref w] (c_in_kn (y := y) (σ := (in_kn σ τ ν)) (τ := τ) (ν := ν) (pr_hl hA) hy hw hdis (inI_in_kn hI) hW) v_X1_119 (in_k0 hy) (by decide) rfl rfl rfl (by decide) (Nat.zero_le _) (Nat.zero_le _) rfl (Nat.le_of_ble_eq_true rfl) dX1_readLink_27 ?_
    refine pr_istore (ls' := [_, _, _, _, _, _, _, _]) hA dX1_readLink_30 (by decide) rfl ?_
    refine pr_iload_n hA dX1_readLink_32 rfl ?_
    refine pr_iload hA dX1_readLink_33 rfl ?_
    refine pr_icmp_ne hA 47 dX1_readLink_35 (by decide) (fun c_35 => ?_) (fun c_35 => ?_)
    · refine pr_aload_n hA dX1_readLink_47 rfl ?_
      refine pr_iconst hA (0) dX1_readLink_48 (by decide) ?_
      refine pr_sipush hA (1000) dX1_readLink_49 (by decide) ?_
      refine pr_callVi hA [.int (0 : Int32), .int (1000 : Int32)] (c_in_rn (y := y) (σ := (in_kn (in_kn σ τ ν) τ ν)) (pr_hl hA) hy (inI_in_kn (inI_in_kn hI))) v_X1_82 (in_k0 hy) (by decide) rfl rfl rfl (by decide) (Nat.zero_le _) (Nat.zero_le _) rfl (Nat.le_of_ble_eq_true rfl) dX1_readLink_52 ?_
      refine pr_istore (ls' := [_, _, _, _, _, _, _, _]) hA dX1_readLink_55 (by decide) rfl ?_
      refine pr_aload_n hA dX1_readLink_57 rfl ?_
      refine pr_iconst hA (0) dX1_readLink_58 (by decide) ?_
      refine pr_sipush hA (1000) dX1_readLink_59 (by decide) ?_
      refine pr_callVi hA [.int (0 : Int32), .int (1000 : Int32)] (c_in_rn (y := y) (σ := (in_rn (in_kn (in_kn σ τ ν) τ ν) (0 : Int32) (1000 : Int32))) (pr_hl hA) hy (inI_in_rn (inI_in_kn (inI_in_kn hI)))) v_X1_82 (in_k0 hy) (by decide) rfl rfl rfl (by decide) (Nat.zero_le _) (Nat.zero_le _) rfl (Nat.le_of_ble_eq_true rfl) dX1_readLink_62 ?_
      refine pr_istore (ls' := [_, _, _, _, _, _, _, _]) hA dX1_readLink_65 (by decide) rfl ?_
      refine pr_aload_n hA dX1_readLink_67 rfl ?_
      refine pr_iconst hA (1) dX1_readLink_68 (by decide) ?_
      refine pr_bipush hA (50) dX1_readLink_69 (by decide) ?_
      refine pr_callVi hA [.int (1 : Int32), .int (50 : Int32)] (c_in_rn (y := y) (σ := (in_rn (in_rn (in_kn (in_kn σ τ ν) τ ν) (0 : Int32) (1000 : Int32)) (0 : Int32) (1000 : Int32))) (pr_hl hA) hy (inI_in_rn (inI_in_rn (inI_in_kn (inI_in_kn hI))))) v_X1_82 (in_k0 hy) (by decide) rfl rfl rfl (by decide) (Nat.zero_le _) (Nat.zero_le _) rfl (Nat.le_of_ble_eq_true rfl) dX1_readLink_71 ?_
      refine pr_istore (ls' := [_, _, _, _, _, _, _, _]) hA dX1_readLink_74 (by decide) rfl ?_
      refine pr_aload_n hA dX1_readLink_76 rfl ?_
      refine pr_getE (v := ((in_rn (in_rn (in_rn (in_kn (in_kn σ τ ν) τ ν) (0 : Int32) (1000 : Int32)) (0 : Int32) (1000 : Int32)) (1 : Int32) (50 : Int32)) 0 0)) hA f_X1_9 rfl (in_k0 hy) (rg_val0 (by decide)) dX1_readLink_77 ?_
      refine pr_if_ne hA 99 dX1_readLink_80 (by decide) (fun c_80 => ?_) (fun c_80 => ?_)
      · exact pr_return hA rfl (Nat.zero_le _) (Nat.zero_le _) dX1_readLink_99 ⟨rfl, rfl, (by simp only [in_li, in_li_w, if_pos c_9, if_neg c_35, if_neg c_80]), rfl⟩
      · refine pr_aload_n hA dX1_readLink_83 rfl ?_
        refine pr_getR hA f_X1_110 rfl (wk_0 hw) (wf_0_0 hw) dX1_readLink_84 ?_
        refine pr_iload_n hA dX1_readLink_87 rfl ?_
        refine pr_iload hA dX1_readLink_88 rfl ?_
        refine pr_iload hA dX1_readLink_90 rfl ?_
        refine pr_iload hA dX1_readLink_92 rfl ?_
        refine pr_iload hA dX1_readLink_94 rfl ?_
        have hv96 : wI τ := hW
        refine pr_gI (I' := (ws_put (rg_put I y 2 (in_rn (in_rn (in_rn (in_kn (in_kn σ τ ν) τ ν) (0 : Int32) (1000 : Int32)) (0 : Int32) (1000 : Int32)) (1 : Int32) (50 : Int32))) w τ)) (ws_rg (by omega)) ?_
        refine pr_callVv hA [.int (in_kn_r σ τ ν), .int (in_kn_r (in_kn σ τ ν) τ ν), .int (in_rn_r (in_kn (in_kn σ τ ν) τ ν) (0 : Int32) (1000 : Int32)), .int (in_rn_r (in_rn (in_kn (in_kn σ τ ν) τ ν) (0 : Int32) (1000 : Int32)) (0 : Int32) (1000 : Int32)), .int (in_rn_r (in_rn (in_rn (in_kn (in_kn σ τ ν) τ ν) (0 : Int32) (1000 : Int32)) (0 : Int32) (1000 : Int32)) (1 : Int32) (50 : Int32))] (c_lk_add (w := w) (σ := τ) (nl := (lkn τ)) (b := (in_kn_r σ τ ν)) (e := (in_kn_r (in_kn σ τ ν) τ ν)) (u := (in_rn_r (in_kn (in_kn σ τ ν) τ ν) (0 : Int32) (1000 : Int32))) (p := (in_rn_r (in_rn (in_kn (in_kn σ τ ν) τ ν) (0 : Int32) (1000 : Int32)) (0 : Int32) (1000 : Int32))) (t := (in_rn_r (in_rn (in_rn (in_kn (in_kn σ τ ν) τ ν) (0 : Int32) (1000 : Int32)) (0 : Int32) (1000 : Int32)) (1 : Int32) (50 : Int32))) (pr_hl hA) hw (wI_nl hv96) n_9) v_X1_123 (wk_1 hw) (by decide) rfl rfl rfl (by decide) (Nat.zero_le _) (Nat.zero_le _) rfl (Nat.le_of_ble_eq_true rfl) dX1_readLink_96 ?_
        refine pr_gI (I' := (rg_put (ws_put I w (lk_add τ (lkn τ) (in_kn_r σ τ ν) (in_kn_r (in_kn σ τ ν) τ ν) (in_rn_r (in_kn (in_kn σ τ ν) τ ν) (0 : Int32) (1000 : Int32)) (in_rn_r (in_rn (in_kn (in_kn σ τ ν) τ ν) (0 : Int32) (1000 : Int32)) (0 : Int32) (1000 : Int32)) (in_rn_r (in_rn (in_rn (in_kn (in_kn σ τ ν) τ ν) (0 : Int32) (1000 : Int32)) (0 : Int32) (1000 : Int32)) (1 : Int32) (50 : Int32)))) y 2 (in_rn (in_rn (in_rn (in_kn (in_kn σ τ ν) τ ν) (0 : Int32) (1000 : Int32)) (0 : Int32) (1000 : Int32)) (1 : Int32) (50 : Int32)))) (rg_ws (by omega)) ?_
        exact pr_return hA rfl (Nat.zero_le _) (Nat.zero_le _) dX1_readLink_99 ⟨rfl, rfl, (by simp only [in_li, in_li_w, if_pos c_9, if_neg c_35, if_pos c_80]), rfl⟩
    · refine pr_aload_n hA dX1_readLink_38 rfl ?_
      refine pr_iconst hA (3) dX1_readLink_39 (by decide) ?_
      refine pr_aload_n hA dX1_readLink_40 rfl ?_
      refine pr_getE (v := ((in_kn (in_kn σ τ ν) τ ν) 0 5)) hA f_X1_28 rfl (in_k0 hy) (rg_val0 (by decide)) dX1_readLink_41 ?_
      refine pr_callVv hA [.int (3 : Int32), .int ((in_kn (in_kn σ τ ν) τ ν) 0 5)] (c_in_fail (y := y) (σ := (in_kn (in_kn σ τ ν) τ ν)) (pr_hl hA) hy) v_X1_86 (in_k0 hy) (by decide) rfl rfl rfl (by decide) (Nat.zero_le _) (Nat.zero_le _) rfl (Nat.le_of_ble_eq_true rfl) dX1_readLink_44 ?_
      refine pr_aload_n hA dX1_readLink_47 rfl ?_
      refine pr_iconst hA (0) dX1_readLink_48 (by decide) ?_
      refine pr_sipush hA (1000) dX1_readLink_49 (by decide) ?_
      refine pr_callVi hA [.int (0 : Int32), .int (1000 : Int32)] (c_in_rn (y := y) (σ := (in_fail (in_kn (in_kn σ τ ν) τ ν) (3 : Int32) ((in_kn (in_kn σ τ ν) τ ν) 0 5))) (pr_hl hA) hy (inI_in_fail (inI_in_kn (inI_in_kn hI)))) v_X1_82 (in_k0 hy) (by decide) rfl rfl rfl (by decide) (Nat.zero_le _) (Nat.zero_le _) rfl (Nat.le_of_ble_eq_true rfl) dX1_readLink_52 ?_
      refine pr_istore (ls' := [_, _, _, _, _, _, _, _]) hA dX1_readLink_55 (by decide) rfl ?_
      refine pr_aload_n hA dX1_readLink_57 rfl ?_
      refine pr_iconst hA (0) dX1_readLink_58 (by decide) ?_
      refine pr_sipush hA (1000) dX1_readLink_59 (by decide) ?_
      refine pr_callVi hA [.int (0 : Int32), .int (1000 : Int32)] (c_in_rn (y := y) (σ := (in_rn (in_fail (in_kn (in_kn σ τ ν) τ ν) (3 : Int32) ((in_kn (in_kn σ τ ν) τ ν) 0 5)) (0 : Int32) (1000 : Int32))) (pr_hl hA) hy (inI_in_rn (inI_in_fail (inI_in_kn (inI_in_kn hI))))) v_X1_82 (in_k0 hy) (by decide) rfl rfl rfl (by decide) (Nat.zero_le _) (Nat.zero_le _) rfl (Nat.le_of_ble_eq_true rfl) dX1_readLink_62 ?_
      refine pr_istore (ls' := [_, _, _, _, _, _, _, _]) hA dX1_readLink_65 (by decide) rfl ?_
      refine pr_aload_n hA dX1_readLink_67 rfl ?_
      refine pr_iconst hA (1) dX1_readLink_68 (by decide) ?_
      refine pr_bipush hA (50) dX1_readLink_69 (by decide) ?_
      refine pr_callVi hA [.int (1 : Int32), .int (50 : Int32)] (c_in_rn (y := y) (σ := (in_rn (in_rn (in_fail (in_kn (in_kn σ τ ν) τ ν) (3 : Int32) ((in_kn (in_kn σ τ ν) τ ν) 0 5)) (0 : Int32) (1000 : Int32)) (0 : Int32) (1000 : Int32))) (pr_hl hA) hy (inI_in_rn (inI_in_rn (inI_in_fail (inI_in_kn (inI_in_kn hI)))))) v_X1_82 (in_k0 hy) (by decide) rfl rfl rfl (by decide) (Nat.zero_le _) (Nat.zero_le _) rfl (Nat.le_of_ble_eq_true rfl) dX1_readLink_71 ?_
      refine pr_istore (ls' := [_, _, _, _, _, _, _, _]) hA dX1_readLink_74 (by decide) rfl ?_
      refine pr_aload_n hA dX1_readLink_76 rfl ?_
      refine pr_getE (v := ((in_rn (in_rn (in_rn (in_fail (in_kn (in_kn σ τ ν) τ ν) (3 : Int32) ((in_kn (in_kn σ τ ν) τ ν) 0 5)) (0 : Int32) (1000 : Int32)) (0 : Int32) (1000 : Int32)) (1 : Int32) (50 : Int32)) 0 0)) hA f_X1_9 rfl (in_k0 hy) (rg_val0 (by decide)) dX1_readLink_77 ?_
      refine pr_if_ne hA 99 dX1_readLink_80 (by decide) (fun c_80 => ?_) (fun c_80 => ?_)
      · exact pr_return hA rfl (Nat.zero_le _) (Nat.zero_le _) dX1_readLink_99 ⟨rfl, rfl, (by simp only [in_li, in_li_w, if_pos c_9, if_pos c_35, if_neg c_80]), rfl⟩
      · refine pr_aload_n hA dX1_readLink_83 rfl ?_
        refine pr_getR hA f_X1_110 rfl (wk_0 hw) (wf_0_0 hw) dX1_readLink_84 ?_
        refine pr_iload_n hA dX1_readLink_87 rfl ?_
        refine pr_iload hA dX1_readLink_88 rfl ?_
        refine pr_iload hA dX1_readLink_90 rfl ?_
        refine pr_iload hA dX1_readLink_92 rfl ?_
        refine pr_iload hA dX1_readLink_94 rfl ?_
        have hv96 : wI τ := hW
        refine pr_gI (I' := (ws_put (rg_put I y 2 (in_rn (in_rn (in_rn (in_fail (in_kn (in_kn σ τ ν) τ ν) (3 : Int32) ((in_kn (in_kn σ τ ν) τ ν) 0 5)) (0 : Int32) (1000 : Int32)) (0 : Int32) (1000 : Int32)) (1 : Int32) (50 : Int32))) w τ)) (ws_rg (by omega)) ?_
        refine pr_callVv hA [.int (in_kn_r σ τ ν), .int (in_kn_r (in_kn σ τ ν) τ ν), .int (in_rn_r (in_fail (in_kn (in_kn σ τ ν) τ ν) (3 : Int32) ((in_kn (in_kn σ τ ν) τ ν) 0 5)) (0 : Int32) (1000 : Int32)), .int (in_rn_r (in_rn (in_fail (in_kn (in_kn σ τ ν) τ ν) (3 : Int32) ((in_kn (in_kn σ τ ν) τ ν) 0 5)) (0 : Int32) (1000 : Int32)) (0 : Int32) (1000 : Int32)), .int (in_rn_r (in_rn (in_rn (in_fail (in_kn (in_kn σ τ ν) τ ν) (3 : Int32) ((in_kn (in_kn σ τ ν) τ ν) 0 5)) (0 : Int32) (1000 : Int32)) (0 : Int32) (1000 : Int32)) (1 : Int32) (50 : Int32))] (c_lk_add (w := w) (σ := τ) (nl := (lkn τ)) (b := (in_kn_r σ τ ν)) (e := (in_kn_r (in_kn σ τ ν) τ ν)) (u := (in_rn_r (in_fail (in_kn (in_kn σ τ ν) τ ν) (3 : Int32) ((in_kn (in_kn σ τ ν) τ ν) 0 5)) (0 : Int32) (1000 : Int32))) (p := (in_rn_r (in_rn (in_fail (in_kn (in_kn σ τ ν) τ ν) (3 : Int32) ((in_kn (in_kn σ τ ν) τ ν) 0 5)) (0 : Int32) (1000 : Int32)) (0 : Int32) (1000 : Int32))) (t := (in_rn_r (in_rn (in_rn (in_fail (in_kn (in_kn σ τ ν) τ ν) (3 : Int32) ((in_kn (in_kn σ τ ν) τ ν) 0 5)) (0 : Int32) (1000 : Int32)) (0 : Int32) (1000 : Int32)) (1 : Int32) (50 : Int32))) (pr_hl hA) hw (wI_nl hv96) n_9) v_X1_123 (wk_1 hw) (by decide) rfl rfl rfl (by decide) (Nat.zero_le _) (Nat.zero_le _) rfl (Nat.le_of_ble_eq_true rfl) dX1_readLink_96 ?_
        refine pr_gI (I' := (rg_put (ws_put I w (lk_add τ (lkn τ) (in_kn_r σ τ ν) (in_kn_r (in_kn σ τ ν) τ ν) (in_rn_r (in_fail (in_kn (in_kn σ τ ν) τ ν) (3 : Int32) ((in_kn (in_kn σ τ ν) τ ν) 0 5)) (0 : Int32) (1000 : Int32)) (in_rn_r (in_rn (in_fail (in_kn (in_kn σ τ ν) τ ν) (3 : Int32) ((in_kn (in_kn σ τ ν) τ ν) 0 5)) (0 : Int32) (1000 : Int32)) (0 : Int32) (1000 : Int32)) (in_rn_r (in_rn (in_rn (in_fail (in_kn (in_kn σ τ ν) τ ν) (3 : Int32) ((in_kn (in_kn σ τ ν) τ ν) 0 5)) (0 : Int32) (1000 : Int32)) (0 : Int32) (1000 : Int32)) (1 : Int32) (50 : Int32)))) y 2 (in_rn (in_rn (in_rn (in_fail (in_kn (in_kn σ τ ν) τ ν) (3 : Int32) ((in_kn (in_kn σ τ ν) τ ν) 0 5)) (0 : Int32) (1000 : Int32)) (0 : Int32) (1000 : Int32)) (1 : Int32) (50 : Int32)))) (rg_ws (by omega)) ?_
        exact pr_return hA rfl (Nat.zero_le _) (Nat.zero_le _) dX1_readLink_99 ⟨rfl, rfl, (by simp only [in_li, in_li_w, if_pos c_9, if_pos c_35, if_pos c_80]), rfl⟩
  · have n_9 : ¬ (lkn τ) < 24 := fun q => c_9 ((nI_ltI (by omega) (by omega)).mpr q)
    refine pr_aload_n hA dX1_readLink_12 rfl ?_
    refine pr_iconst hA (4) dX1_readLink_13 (by decide) ?_
    refine pr_iload_n hA dX1_readLink_14 rfl ?_
    refine pr_callVv hA [.int (4 : Int32), .int p] (c_in_fail (y := y) (σ := σ) (pr_hl hA) hy) v_X1_86 (in_k0 hy) (by decide) rfl rfl rfl (by decide) (Nat.zero_le _) (Nat.zero_le _) rfl (Nat.le_of_ble_eq_true rfl) dX1_readLink_15 ?_
    exact pr_return hA rfl (Nat.zero_le _) (Nat.zero_le _) dX1_readLink_18 ⟨rfl, rfl, (by simp only [in_li, in_li_w, if_neg c_9]), rfl⟩

theorem fr_in_li {σ : pr_I} {τ : pr_I} {ν : Nat → Int64} {p : Int32} {o : Nat} (hms : ∀ m ∈ ([0] : List Nat), o ≠ m) : in_li σ τ ν p o = σ o := by
  unfold in_li
  simp only [List.mem_cons, List.not_mem_nil, or_false, forall_eq_or_imp, forall_eq] at hms
  by_cases c_9 : (nI (lkn τ)) < (nI 24)
  · refine (congrFun (if_pos c_9) o).trans ?_
    by_cases c_35 : (in_kn_r σ τ ν) = (in_kn_r (in_kn σ τ ν) τ ν)
    · refine (congrFun (if_pos c_35) o).trans ?_
      by_cases c_80 : ((in_rn (in_rn (in_rn (in_fail (in_kn (in_kn σ τ ν) τ ν) (3 : Int32) ((in_kn (in_kn σ τ ν) τ ν) 0 5)) (0 : Int32) (1000 : Int32)) (0 : Int32) (1000 : Int32)) (1 : Int32) (50 : Int32)) 0 0) = 0
      · refine (congrFun (if_pos c_80) o).trans ?_
        rw [fr_in_rn (by simp only [List.mem_cons, List.not_mem_nil, or_false, forall_eq_or_imp, forall_eq]; omega), fr_in_rn (by simp only [List.mem_cons, List.not_mem_nil, or_false, forall_eq_or_imp, forall_eq]; omega), fr_in_rn (by simp only [List.mem_cons, List.not_mem_nil, or_false, forall_eq_or_imp, forall_eq]; omega), fr_in_fail (by simp only [List.mem_cons, List.not_mem_nil, or_false, forall_eq_or_imp, forall_eq]; omega), fr_in_kn (by simp only [List.mem_cons, List.not_mem_nil, or_false, forall_eq_or_imp, forall_eq]; omega), fr_in_kn (by simp only [List.mem_cons, List.not_mem_nil, or_false, forall_eq_or_imp, forall_eq]; omega)]
      · refine (congrFun (if_neg c_80) o).trans ?_
        rw [fr_in_rn (by simp only [List.mem_cons, List.not_mem_nil, or_false, forall_eq_or_imp, forall_eq]; omega), fr_in_rn (by simp only [List.mem_cons, List.not_mem_nil, or_false, forall_eq_or_imp, forall_eq]; omega), fr_in_rn (by simp only [List.mem_cons, List.not_mem_nil, or_false, forall_eq_or_imp, forall_eq]; omega), fr_in_fail (by simp only [List.mem_cons, List.not_mem_nil, or_false, forall_eq_or_imp, forall_eq]; omega), fr_in_kn (by simp only [List.mem_cons, List.not_mem_nil, or_false, forall_eq_or_imp, forall_eq]; omega), fr_in_kn (by simp only [List.mem_cons, List.not_mem_nil, or_false, forall_eq_or_imp, forall_eq]; omega)]
    · refine (congrFun (if_neg c_35) o).trans ?_
      by_cases c_80 : ((in_rn (in_rn (in_rn (in_kn (in_kn σ τ ν) τ ν) (0 : Int32) (1000 : Int32)) (0 : Int32) (1000 : Int32)) (1 : Int32) (50 : Int32)) 0 0) = 0
      · refine (congrFun (if_pos c_80) o).trans ?_
        rw [fr_in_rn (by simp only [List.mem_cons, List.not_mem_nil, or_false, forall_eq_or_imp, forall_eq]; omega), fr_in_rn (by simp only [List.mem_cons, List.not_mem_nil, or_false, forall_eq_or_imp, forall_eq]; omega), fr_in_rn (by simp only [List.mem_cons, List.not_mem_nil, or_false, forall_eq_or_imp, forall_eq]; omega), fr_in_kn (by simp only [List.mem_cons, List.not_mem_nil, or_false, forall_eq_or_imp, forall_eq]; omega), fr_in_kn (by simp only [List.mem_cons, List.not_mem_nil, or_false, forall_eq_or_imp, forall_eq]; omega)]
      · refine (congrFun (if_neg c_80) o).trans ?_
        rw [fr_in_rn (by simp only [List.mem_cons, List.not_mem_nil, or_false, forall_eq_or_imp, forall_eq]; omega), fr_in_rn (by simp only [List.mem_cons, List.not_mem_nil, or_false, forall_eq_or_imp, forall_eq]; omega), fr_in_rn (by simp only [List.mem_cons, List.not_mem_nil, or_false, forall_eq_or_imp, forall_eq]; omega), fr_in_kn (by simp only [List.mem_cons, List.not_mem_nil, or_false, forall_eq_or_imp, forall_eq]; omega), fr_in_kn (by simp only [List.mem_cons, List.not_mem_nil, or_false, forall_eq_or_imp, forall_eq]; omega)]
  · refine (congrFun (if_neg c_9) o).trans ?_
    rw [fr_in_fail (by simp only [List.mem_cons, List.not_mem_nil, or_false, forall_eq_or_imp, forall_eq]; omega)]

theorem fr_in_li_w {τ : pr_I} {σ : pr_I} {ν : Nat → Int64} {p : Int32} {o : Nat} (hms : ∀ m ∈ ([1, 2, 3, 4, 5, 6, 7, 8] : List Nat), o ≠ m) : in_li_w τ σ ν p o = τ o := by
  unfold in_li_w
  simp only [List.mem_cons, List.not_mem_nil, or_false, forall_eq_or_imp, forall_eq] at hms
  by_cases c_9 : (nI (lkn τ)) < (nI 24)
  · refine (congrFun (if_pos c_9) o).trans ?_
    by_cases c_35 : (in_kn_r σ τ ν) = (in_kn_r (in_kn σ τ ν) τ ν)
    · refine (congrFun (if_pos c_35) o).trans ?_
      by_cases c_80 : ((in_rn (in_rn (in_rn (in_fail (in_kn (in_kn σ τ ν) τ ν) (3 : Int32) ((in_kn (in_kn σ τ ν) τ ν) 0 5)) (0 : Int32) (1000 : Int32)) (0 : Int32) (1000 : Int32)) (1 : Int32) (50 : Int32)) 0 0) = 0
      · refine (congrFun (if_pos c_80) o).trans ?_
        rw [fr_lk_add (by simp only [List.mem_cons, List.not_mem_nil, or_false, forall_eq_or_imp, forall_eq]; omega)]
      · refine (congrFun (if_neg c_80) o).trans ?_
        rfl
    · refine (congrFun (if_neg c_35) o).trans ?_
      by_cases c_80 : ((in_rn (in_rn (in_rn (in_kn (in_kn σ τ ν) τ ν) (0 : Int32) (1000 : Int32)) (0 : Int32) (1000 : Int32)) (1 : Int32) (50 : Int32)) 0 0) = 0
      · refine (congrFun (if_pos c_80) o).trans ?_
        rw [fr_lk_add (by simp only [List.mem_cons, List.not_mem_nil, or_false, forall_eq_or_imp, forall_eq]; omega)]
      · refine (congrFun (if_neg c_80) o).trans ?_
        rfl
  · refine (congrFun (if_neg c_9) o).trans ?_
    rfl

