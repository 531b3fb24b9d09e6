/-! THE INPUT'S FACE -/
theorem ri_rl_I : ∀ (j k : Nat) (φ ψ : pr_I) (μ : Nat → Int64), in_I φ → wI ψ → in_I (ri_rl j k φ ψ μ).1 ∧ wI (ri_rl j k φ ψ μ).2.1
  | 0, k, φ, ψ, μ, h1, h2 => ⟨h1, h2⟩
  | j + 1, k, φ, ψ, μ, h1, h2 => by
    unfold ri_rl
    by_cases c1 : nI 700 ≤ nI k
    · rw [if_pos c1]; exact ⟨h1, h2⟩
    · rw [if_neg c1]
      by_cases c2 : φ 0 0 = 0
      · rw [if_pos c2]
        by_cases c3 : in_end_r φ = 0
        · rw [if_pos c3]; exact ri_rl_I j (k + 1) _ _ _ (inI_in_st (inI_in_semi (inI_in_end h1))) (wI_in_st_w h2)
        · rw [if_neg c3]; exact ⟨inI_in_end h1, h2⟩
      · rw [if_neg c2]; exact ⟨h1, h2⟩
theorem ri_R_I {σ τ : pr_I} {ν : Nat → Int64} (hI : in_I σ) (hW : wI τ) : in_I (ri_R σ τ ν).1 ∧ wI (ri_R σ τ ν).2.1 := ri_rl_I _ _ _ _ _ (inI_in_st (inI_cl hI)) (wI_in_st_w (wI_w_clear hW))
theorem inI_in_ri {σ τ : pr_I} {ν : Nat → Int64} (hI : in_I σ) (hW : wI τ) : in_I (in_ri σ τ ν) := in_I.up3 (ri_R_I hI hW).1 (nI_vin (k := 0) (by decide) (by decide))
theorem wI_in_ri_w {σ τ : pr_I} {ν : Nat → Int64} (hI : in_I σ) (hW : wI τ) : wI (in_ri_w τ σ ν) := (ri_R_I hI hW).2
theorem c_in_riE {g : pr_C} {l : Launch} (hl : l.stackTraces = false) {T : pr_T} {I : pr_I} {L : pr_L} {y w : Nat} {σ τ : pr_I} {ν : Nat → Int64} (hy : pr_In T y) (hw : pr_W T w) (hdis : y + 2 ≤ w ∨ w + 121 ≤ y) (hI : in_I σ) (hW : wI τ) (hν : L (w + 120) = ν) : pr_M g l 9 0 0 mX1_readInto [.ref y, .ref w] T (rg_put (ws_put I w τ) y 2 σ) L (pr_R none T (rg_put (ws_put I w (in_ri_w τ σ ν)) y 2 (in_ri σ τ ν)) (pr_rowl L (w + 120) (in_ri_nu σ τ ν))) pr_no := by
  have h := c_in_ri (I := I) (L := L) (ν := ν) (g := g) hl hy hw hdis hI hW
  subst hν
  rw [lr_self] at h; exact h
/-! the letter of a name -/
noncomputable def lo_it5 (σ : pr_I) (q : Int64) (i : Int32) : Nat → Int32 × Int64
  | 0 => ((0 : Int32), q)
  | k + 1 => (if (lg_cmp ((lo_it5 σ q i k).2) (0 : Int64)) = 0 then (((lo_it5 σ q i k).1), ((lo_it5 σ q i k).2)) else (if (6 : Int32) ≤ ((lo_it5 σ q i k).1) then (((lo_it5 σ q i k).1), ((lo_it5 σ q i k).2)) else ((((lo_it5 σ q i k).1) + Int32.ofInt (1)), (((lo_it5 σ q i k).2).toUInt64 >>> (((8 : Int32)).toInt64.toUInt64 &&& Int64.toUInt64 63)).toInt64)))
noncomputable def lo_it5_e (σ : pr_I) (q : Int64) (i : Int32) (k : Nat) : Bool := (if (lg_cmp ((lo_it5 σ q i k).2) (0 : Int64)) = 0 then true else (if (6 : Int32) ≤ ((lo_it5 σ q i k).1) then true else false))
theorem st_lo_it5_9 {σ : pr_I} {q : Int64} {i : Int32} {k : Nat} (c_9 : (lg_cmp ((lo_it5 σ q i k).2) (0 : Int64)) = 0) : ∀ j, lo_it5 σ q i (k + j) = lo_it5 σ q i k
  | 0 => rfl
  | j + 1 => by
    have ih := st_lo_it5_9 c_9 j
    show lo_it5 σ q i ((k + j) + 1) = lo_it5 σ q i k
    simp only [lo_it5, ih, if_pos c_9]
theorem st_lo_it5_15 {σ : pr_I} {q : Int64} {i : Int32} {k : Nat} (c_9 : ¬ ((lg_cmp ((lo_it5 σ q i k).2) (0 : Int64)) = 0)) (c_15 : (6 : Int32) ≤ ((lo_it5 σ q i k).1)) : ∀ j, lo_it5 σ q i (k + j) = lo_it5 σ q i k
  | 0 => rfl
  | j + 1 => by
    have ih := st_lo_it5_15 c_9 c_15 j
    show lo_it5 σ q i ((k + j) + 1) = lo_it5 σ q i k
    simp only [lo_it5, ih, if_neg c_9, if_pos c_15]
noncomputable def lo_r (σ : pr_I) (q : Int64) (i : Int32) : Int32 := (if (if i < 0 then (0 : Int32) else (if ((lo_it5 σ q i (sl 6)).1) ≤ i then (0 : Int32) else (1 : Int32))) = 0 then ((-1) : Int32) else (((q.toUInt64 >>> ((((8 : Int32) * ((((lo_it5 σ q i (sl 6)).1) - (1 : Int32)) - i))).toInt64.toUInt64 &&& Int64.toUInt64 63)).toInt64 &&& (255 : Int64))).toInt32)
theorem lo_c {q : Int64} {i : Int32} {σ : pr_I} : ∀ k, k ≤ 6 → (lo_it5 σ q i k).1 = nI k ∨ lo_it5_e σ q i k = true
  | 0, _ => Or.inl rfl
  | k + 1, h => by
    rcases lo_c (σ := σ) (q := q) (i := i) k (by omega) with ih | ih
    · by_cases c9 : (lg_cmp (lo_it5 σ q i k).2 (0 : Int64)) = 0
      · right
        have e : lo_it5 σ q i (k + 1) = lo_it5 σ q i k := by simp only [lo_it5, if_pos c9]
        unfold lo_it5_e; rw [e, if_pos c9]
      · left
        have c15 : (lo_it5 σ q i k).1 < 6 := by rw [ih]; exact (nI_ltI (b := 6) (by omega) (by omega)).mpr (by omega)
        have e : (lo_it5 σ q i (k + 1)).1 = (lo_it5 σ q i k).1 + Int32.ofInt 1 := by
          first
          | simp only [lo_it5, if_neg c9, if_neg (Int32.not_le.mpr c15)]
          | simp only [lo_it5, if_neg c9, if_pos c15]
        rw [e, ih, nI_inc]
    · right
      have e : lo_it5 σ q i (k + 1) = lo_it5 σ q i k := by
        unfold lo_it5_e at ih
        by_cases c9 : (lg_cmp (lo_it5 σ q i k).2 (0 : Int64)) = 0
        · simp only [lo_it5, if_pos c9]
        · rw [if_neg c9] at ih
          by_cases c15 : (6 : Int32) ≤ (lo_it5 σ q i k).1
          · simp only [lo_it5, if_neg c9, if_pos c15]
          · rw [if_neg c15] at ih; cases ih
      unfold lo_it5_e at ih ⊢; rw [e]; exact ih
theorem lo_e {q : Int64} {i : Int32} {σ : pr_I} : lo_it5_e σ q i (sl 6) = true := by
  rw [sl_eq]
  rcases lo_c (σ := σ) (q := q) (i := i) 6 (by omega) with h | h
  · unfold lo_it5_e
    by_cases c9 : (lg_cmp (lo_it5 σ q i 6).2 (0 : Int64)) = 0
    · rw [if_pos c9]
    · rw [if_neg c9, h, if_pos (show (6 : Int32) ≤ nI 6 by decide)]
  · exact h
noncomputable def fx_nameLetter_r (σ : pr_I) (ν : Nat → Int64) (k : Nat) (i : Int32) : Int32 := (lo_r σ (ν k) i)
noncomputable def fx_append_r (σ : pr_I) (q : Int64) : Int32 := (in_ad_r σ q)
noncomputable def fx_append (σ : pr_I) (q : Int64) : pr_I := (in_ad σ q)
set_option maxRecDepth 100000 in
set_option maxHeartbeats 400000 in
theorem c_fx_append {g : pr_C} {l : Launch} (hl : l.stackTraces = false) {T : pr_T} {I : pr_I} {L : pr_L} {y : Nat} {σ : pr_I} {q : Int64} (hy : pr_In T y) {x w v sn f : Nat} (hx : pr_X7 T x w v sn f y) (hI : in_I σ) : pr_M g l 3 0 0 mX7_append [.ref x, .long q] T (rg_put I y 2 σ) L (pr_R (some (.int (fx_append_r σ q))) T (rg_put I y 2 (fx_append σ q)) L) pr_no := by
  refine pr_ofG (by decide) rfl hl (Nat.le_of_ble_eq_true rfl) (fun X hA hX hXn hXt => ?_)
  subst hX
  show pr_G g X mX7_append.2.2.1 _ 0 0 0 [.ref x, .long q, .null] [] T (rg_put I y 2 σ) L
  refine pr_aload_n hA dX7_append_0 rfl ?_
  refine pr_getR hA f_X7_33 rfl (tx_k hx) (tx_4 hx) dX7_append_1 ?_
  refine pr_lload_n hA dX7_append_4 rfl ?_
  refine pr_callVi hA [.long q] (c_in_ad (y := y) (σ := σ) (pr_hl hA) hy hI) v_X7_37 (in_k0 hy) (by decide) rfl rfl rfl (by decide) (Nat.zero_le _) (Nat.zero_le _) rfl (Nat.le_of_ble_eq_true rfl) dX7_append_5 ?_
  exact pr_ireturn hA rfl rfl (Nat.zero_le _) (Nat.zero_le _) dX7_append_8 ⟨rfl, rfl, rfl, rfl⟩

noncomputable def fx_loadError_r (σ : pr_I) : Int32 := (σ 0 0)
noncomputable def fx_nodeNamed_r (σ : pr_I) (τ : pr_I) (ν : Nat → Int64) : Int32 := (w_nw_r τ ν (ndn τ) (in_tn_r σ))
noncomputable def fx_nodeNamed (σ : pr_I) (τ : pr_I) (ν : Nat → Int64) : pr_I := (in_tn σ)
noncomputable def fx_load_r (σ : pr_I) (τ : pr_I) (ω : pr_I) (ν : Nat → Int64) : Int32 := (if ((in_ri σ τ ν) 0 0) = 0 then ((w_cp ω (in_ri_w τ σ ν) (lkn (in_ri_w τ σ ν)) (tkn (in_ri_w τ σ ν)) (rqn (in_ri_w τ σ ν))) 1 8) else (((-100) : Int32) - ((in_ri σ τ ν) 0 1)))
noncomputable def fx_load (σ : pr_I) (τ : pr_I) (ω : pr_I) (ν : Nat → Int64) : pr_I := (if ((in_ri σ τ ν) 0 0) = 0 then (in_ri σ τ ν) else (in_ri σ τ ν))
noncomputable def fx_load_w (ω : pr_I) (σ : pr_I) (τ : pr_I) (ν : Nat → Int64) : pr_I := (if ((in_ri σ τ ν) 0 0) = 0 then (w_cp ω (in_ri_w τ σ ν) (lkn (in_ri_w τ σ ν)) (tkn (in_ri_w τ σ ν)) (rqn (in_ri_w τ σ ν))) else ω)
noncomputable def fx_load_v (τ : pr_I) (σ : pr_I) (ω : pr_I) (ν : Nat → Int64) : pr_I := (if ((in_ri σ τ ν) 0 0) = 0 then (in_ri_w τ σ ν) else (in_ri_w τ σ ν))
set_option maxRecDepth 100000 in
set_option maxHeartbeats 400000 in
theorem c_fx_load {g : pr_C} {l : Launch} (hl : l.stackTraces = false) {T : pr_T} {I : pr_I} {L : pr_L} {y : Nat} {σ : pr_I} {τ : pr_I} {ω : pr_I} {ν : Nat → Int64} (hy : pr_In T y) {x w v sn f : Nat} (hx : pr_X7 T x w v sn f y) (hI : in_I σ) (hw : pr_W T w) (hv : pr_W T v) (hdw : v + 121 ≤ w ∨ w + 121 ≤ v) (hdv : y + 2 ≤ v ∨ v + 121 ≤ y) (hdy : y + 2 ≤ w ∨ w + 121 ≤ y) (hV : wI τ) (hW : wI ω) (hν : L (v + 120) = ν) : pr_M g l 11 0 0 mX7_load [.ref x] T (rg_put (ws_put (ws_put I w ω) v τ) y 2 σ) L (pr_R (some (.int (fx_load_r σ τ ω ν))) T (rg_put (ws_put (ws_put I w (fx_load_w ω σ τ ν)) v (fx_load_v τ σ ω ν)) y 2 (fx_load σ τ ω ν)) (if ((in_ri σ τ ν) 0 0) = 0 then (l_cp (pr_rowl L (v + 120) (in_ri_nu σ τ ν)) v w) else (pr_rowl L (v + 120) (in_ri_nu σ τ ν)))) pr_no := by
  refine pr_ofG (by decide) rfl hl (Nat.le_of_ble_eq_true rfl) (fun X hA hX hXn hXt => ?_)
  subst hX
  show pr_G g X mX7_load.2.2.1 _ 0 0 0 [.ref x] [] T (rg_put (ws_put (ws_put I w ω) v τ) y 2 σ) L
  refine pr_aload_n hA dX7_load_0 rfl ?_
  refine pr_getR hA f_X7_33 rfl (tx_k hx) (tx_4 hx) dX7_load_1 ?_
  refine pr_aload_n hA dX7_load_4 rfl ?_
  refine pr_getR hA f_X7_16 rfl (tx_k hx) (tx_1 hx) dX7_load_5 ?_
  refine pr_callVv hA [.ref v] (c_in_riE (y := y) (w := v) (σ := σ) (τ := τ) (ν := ν) (pr_hl hA) hy hv (by omega) hI hV hν) v_X7_41 (in_k0 hy) (by decide) rfl rfl rfl (by decide) (Nat.zero_le _) (Nat.zero_le _) rfl (Nat.le_of_ble_eq_true rfl) dX7_load_8 ?_
  refine pr_aload_n hA dX7_load_11 rfl ?_
  refine pr_getR hA f_X7_33 rfl (tx_k hx) (tx_4 hx) dX7_load_12 ?_
  refine pr_getE (v := ((in_ri σ τ ν) 0 0)) hA f_X7_45 rfl (in_k0 hy) (rg_val0 (by decide)) dX7_load_15 ?_
  refine pr_if_eq hA 32 dX7_load_18 (by decide) (fun c_18 => ?_) (fun c_18 => ?_)
  · refine pr_aload_n hA dX7_load_32 rfl ?_
    refine pr_getR hA f_X7_10 rfl (tx_k hx) (tx_0 hx) dX7_load_33 ?_
    refine pr_aload_n hA dX7_load_36 rfl ?_
    refine pr_getR hA f_X7_16 rfl (tx_k hx) (tx_1 hx) dX7_load_37 ?_
    refine pr_gI (I' := (rg_put (ws_put (ws_put I v (in_ri_w τ σ ν)) w ω) y 2 (in_ri σ τ ν))) (congrArg (fun z => rg_put z y 2 (in_ri σ τ ν)) (ws_swap (by omega))) ?_
    refine pr_gI (I' := (ws_put (rg_put (ws_put I v (in_ri_w τ σ ν)) y 2 (in_ri σ τ ν)) w ω)) (ws_rg (by omega)) ?_
    refine pr_gI (I' := (ws_put (ws_put (rg_put I y 2 (in_ri σ τ ν)) v (in_ri_w τ σ ν)) w ω)) (congrArg (fun z => ws_put z w ω) (ws_rg (by omega))) ?_
    refine pr_callVv hA [.ref v] (c_w_cpE (w := w) (v := v) (σ := ω) (τ := (in_ri_w τ σ ν)) (pr_hl hA) hw hv (by omega) (wI_in_ri_w hI hV)) v_X7_52 (wk_0 hw) (by decide) rfl rfl rfl (by decide) (Nat.zero_le _) (Nat.zero_le _) rfl (Nat.le_of_ble_eq_true rfl) dX7_load_40 ?_
    refine pr_gI (I' := (ws_put (rg_put (ws_put I v (in_ri_w τ σ ν)) y 2 (in_ri σ τ ν)) w (w_cp ω (in_ri_w τ σ ν) (lkn (in_ri_w τ σ ν)) (tkn (in_ri_w τ σ ν)) (rqn (in_ri_w τ σ ν))))) (congrArg (fun z => ws_put z w (w_cp ω (in_ri_w τ σ ν) (lkn (in_ri_w τ σ ν)) (tkn (in_ri_w τ σ ν)) (rqn (in_ri_w τ σ ν)))) (rg_ws (by omega))) ?_
    refine pr_gI (I' := (rg_put (ws_put (ws_put I v (in_ri_w τ σ ν)) w (w_cp ω (in_ri_w τ σ ν) (lkn (in_ri_w τ σ ν)) (tkn (in_ri_w τ σ ν)) (rqn (in_ri_w τ σ ν)))) y 2 (in_ri σ τ ν))) (rg_ws (by omega)) ?_
    refine pr_gI (I' := (rg_put (ws_put (ws_put I w (w_cp ω (in_ri_w τ σ ν) (lkn (in_ri_w τ σ ν)) (tkn (in_ri_w τ σ ν)) (rqn (in_ri_w τ σ ν)))) v (in_ri_w τ σ ν)) y 2 (in_ri σ τ ν))) (congrArg (fun z => rg_put z y 2 (in_ri σ τ ν)) (ws_swap (by omega))) ?_
    refine pr_aload_n hA dX7_load_43 rfl ?_
    refine pr_getR hA f_X7_10 rfl (tx_k hx) (tx_0 hx) dX7_load_44 ?_
    refine pr_getR hA f_X7_55 rfl (wk_0 hw) (wf_0_0 hw) dX7_load_47 ?_
    refine pr_getE (v := ((w_cp ω (in_ri_w τ σ ν) (lkn (in_ri_w τ σ ν)) (tkn (in_ri_w τ σ ν)) (rqn (in_ri_w τ σ ν))) 1 8)) hA f_X7_59 rfl (wk_1 hw) ((rg_outv (by omega)).trans ((ws_outv (by omega)).trans (ws_val (by decide)))) dX7_load_50 ?_
    exact pr_ireturn hA rfl rfl (Nat.zero_le _) (Nat.zero_le _) dX7_load_53 ⟨(by simp only [fx_load_r, if_pos c_18]), rfl, (by simp only [fx_load, fx_load_w, fx_load_v, if_pos c_18]), (by rw [if_pos c_18])⟩
  · refine pr_bipush hA ((-100)) dX7_load_21 (by decide) ?_
    refine pr_aload_n hA dX7_load_23 rfl ?_
    refine pr_getR hA f_X7_33 rfl (tx_k hx) (tx_4 hx) dX7_load_24 ?_
    refine pr_getE (v := ((in_ri σ τ ν) 0 1)) hA f_X7_49 rfl (in_k0 hy) (rg_val0 (by decide)) dX7_load_27 ?_
    refine pr_isub hA dX7_load_30 ?_
    exact pr_ireturn hA rfl rfl (Nat.zero_le _) (Nat.zero_le _) dX7_load_31 ⟨(by simp only [fx_load_r, if_neg c_18]), rfl, (by simp only [fx_load, fx_load_w, fx_load_v, if_neg c_18]), (by rw [if_neg c_18])⟩

