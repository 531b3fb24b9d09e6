def lk_add (σ : pr_I) (nl : Nat) (b : Int32) (e : Int32) (u : Int32) (p : Int32) (t : Int32) : pr_I := (pr_up (pr_up (pr_up (pr_up (pr_up (pr_up (pr_up (pr_up (pr_up σ 2 nl b) 3 nl e) 4 nl u) 5 nl p) 6 nl t) 7 nl (0 : Int32)) 8 nl (0 : Int32)) 1 7 ((σ 1 7) ||| ((1 : Int32) <<< ((nI nl) &&& 31)))) 1 8 (nI (nl + 1)))
set_option maxRecDepth 100000 in
set_option maxHeartbeats 4000000 in
theorem c_lk_add {g : pr_C} {l : Launch} (hl : l.stackTraces = false) {T : pr_T} {I : pr_I} {L : pr_L} {w : Nat} {σ : pr_I} {nl : Nat} {b : Int32} {e : Int32} {u : Int32} {p : Int32} {t : Int32} (hw : pr_W T w) (hnl : σ 1 8 = nI nl) (hnl24 : nl < 24) : pr_M g l 1 0 0 mX2_add [.ref (w + 1), .int b, .int e, .int u, .int p, .int t] T (ws_put I w σ) L (pr_R none T (ws_put I w (lk_add σ nl b e u p t)) L) pr_no := by
  refine pr_ofG (by decide) rfl hl (Nat.le_of_ble_eq_true rfl) (fun X hA hX hXn hXt => ?_)
  subst hX
  show pr_G g X mX2_add.2.2.1 _ 0 0 0 [.ref (w + 1), .int b, .int e, .int u, .int p, .int t] [] T (ws_put I w σ) L
  refine pr_aload_n hA dX2_add_0 rfl ?_
  refine pr_getE (v := (nI nl)) hA f_X2_37 rfl (wk_1 hw) ((ws_val (by decide)).trans hnl) dX2_add_1 ?_
  refine pr_bipush hA (nI 24) dX2_add_4 (by decide) ?_
  refine pr_icmp_lt hA 10 dX2_add_6 (by decide) (fun c_6 => ?_) (fun c_6 => ?_)
  · have n_6 : nl < 24 := (nI_ltI (by omega) (by omega)).mp c_6
    refine pr_aload_n hA dX2_add_10 rfl ?_
    refine pr_getR hA f_X2_9 rfl (wk_1 hw) (wf_1_0 hw) dX2_add_11 ?_
    refine pr_aload_n hA dX2_add_14 rfl ?_
    refine pr_getE (v := (nI nl)) hA f_X2_37 rfl (wk_1 hw) ((ws_val (by decide)).trans hnl) dX2_add_15 ?_
    refine pr_iload_n hA dX2_add_18 rfl ?_
    refine pr_iastN (I' := (ws_put I w (pr_up σ 2 nl b))) hA (wk_2 hw) (by omega) (by decide) (ws_up (by decide)) dX2_add_19 ?_
    refine pr_aload_n hA dX2_add_20 rfl ?_
    refine pr_getR hA f_X2_15 rfl (wk_1 hw) (wf_1_1 hw) dX2_add_21 ?_
    refine pr_aload_n hA dX2_add_24 rfl ?_
    refine pr_getE (v := (nI nl)) hA f_X2_37 rfl (wk_1 hw) ((ws_val (by decide)).trans ((pr_upv (by decide)).trans hnl)) dX2_add_25 ?_
    refine pr_iload_n hA dX2_add_28 rfl ?_
    refine pr_iastN (I' := (ws_put I w (pr_up (pr_up σ 2 nl b) 3 nl e))) hA (wk_3 hw) (by omega) (by decide) (ws_up (by decide)) dX2_add_29 ?_
    refine pr_aload_n hA dX2_add_30 rfl ?_
    refine pr_getR hA f_X2_18 rfl (wk_1 hw) (wf_1_2 hw) dX2_add_31 ?_
    refine pr_aload_n hA dX2_add_34 rfl ?_
    refine pr_getE (v := (nI nl)) hA f_X2_37 rfl (wk_1 hw) ((ws_val (by decide)).trans ((pr_upv (by decide)).trans ((pr_upv (by decide)).trans hnl))) dX2_add_35 ?_
    refine pr_iload_n hA dX2_add_38 rfl ?_
    refine pr_iastN (I' := (ws_put I w (pr_up (pr_up (pr_up σ 2 nl b) 3 nl e) 4 nl u))) hA (wk_4 hw) (by omega) (by decide) (ws_up (by decide)) dX2_add_39 ?_
    refine pr_aload_n hA dX2_add_40 rfl ?_
    refine pr_getR hA f_X2_21 rfl (wk_1 hw) (wf_1_3 hw) dX2_add_41 ?_
    refine pr_aload_n hA dX2_add_44 rfl ?_
    refine pr_getE (v := (nI nl)) hA f_X2_37 rfl (wk_1 hw) ((ws_val (by decide)).trans ((pr_upv (by decide)).trans ((pr_upv (by decide)).trans ((pr_upv (by decide)).trans hnl)))) dX2_add_45 ?_
    refine pr_iload hA dX2_add_48 rfl ?_
    refine pr_iastN (I' := (ws_put I w (pr_up (pr_up (pr_up (pr_up σ 2 nl b) 3 nl e) 4 nl u) 5 nl p))) hA (wk_5 hw) (by omega) (by decide) (ws_up (by decide)) dX2_add_50 ?_
    refine pr_aload_n hA dX2_add_51 rfl ?_
    refine pr_getR hA f_X2_24 rfl (wk_1 hw) (wf_1_4 hw) dX2_add_52 ?_
    refine pr_aload_n hA dX2_add_55 rfl ?_
    refine pr_getE (v := (nI nl)) hA f_X2_37 rfl (wk_1 hw) ((ws_val (by decide)).trans ((pr_upv (by decide)).trans ((pr_upv (by decide)).trans ((pr_upv (by decide)).trans ((pr_upv (by decide)).trans hnl))))) dX2_add_56 ?_
    refine pr_iload hA dX2_add_59 rfl ?_
    refine pr_iastN (I' := (ws_put I w (pr_up (pr_up (pr_up (pr_up (pr_up σ 2 nl b) 3 nl e) 4 nl u) 5 nl p) 6 nl t))) hA (wk_6 hw) (by omega) (by decide) (ws_up (by decide)) dX2_add_61 ?_
    refine pr_aload_n hA dX2_add_62 rfl ?_
    refine pr_getR hA f_X2_27 rfl (wk_1 hw) (wf_1_5 hw) dX2_add_63 ?_
    refine pr_aload_n hA dX2_add_66 rfl ?_
    refine pr_getE (v := (nI nl)) hA f_X2_37 rfl (wk_1 hw) ((ws_val (by decide)).trans ((pr_upv (by decide)).trans ((pr_upv (by decide)).trans ((pr_upv (by decide)).trans ((pr_upv (by decide)).trans ((pr_upv (by decide)).trans hnl)))))) dX2_add_67 ?_
    refine pr_iconst hA (0) dX2_add_70 (by decide) ?_
    refine pr_iastN (I' := (ws_put I w (pr_up (pr_up (pr_up (pr_up (pr_up (pr_up σ 2 nl b) 3 nl e) 4 nl u) 5 nl p) 6 nl t) 7 nl (0 : Int32)))) hA (wk_7 hw) (by omega) (by decide) (ws_up (by decide)) dX2_add_71 ?_
    refine pr_aload_n hA dX2_add_72 rfl ?_
    refine pr_getR hA f_X2_30 rfl (wk_1 hw) (wf_1_6 hw) dX2_add_73 ?_
    refine pr_aload_n hA dX2_add_76 rfl ?_
    refine pr_getE (v := (nI nl)) hA f_X2_37 rfl (wk_1 hw) ((ws_val (by decide)).trans ((pr_upv (by decide)).trans ((pr_upv (by decide)).trans ((pr_upv (by decide)).trans ((pr_upv (by decide)).trans ((pr_upv (by decide)).trans ((pr_upv (by decide)).trans hnl))))))) dX2_add_77 ?_
    refine pr_iconst hA (0) dX2_add_80 (by decide) ?_
    refine pr_iastN (I' := (ws_put I w (pr_up (pr_up (pr_up (pr_up (pr_up (pr_up (pr_up σ 2 nl b) 3 nl e) 4 nl u) 5 nl p) 6 nl t) 7 nl (0 : Int32)) 8 nl (0 : Int32)))) hA (wk_8 hw) (by omega) (by decide) (ws_up (by decide)) dX2_add_81 ?_
    refine pr_aload_n hA dX2_add_82 rfl ?_
    refine pr_dup hA dX2_add_83 rfl ?_
    refine pr_getE (v := (σ 1 7)) hA f_X2_33 rfl (wk_1 hw) ((ws_val (by decide)).trans ((pr_upv (by decide)).trans ((pr_upv (by decide)).trans ((pr_upv (by decide)).trans ((pr_upv (by decide)).trans ((pr_upv (by decide)).trans ((pr_upv (by decide)).trans (pr_upv (by decide))))))))) dX2_add_84 ?_
    refine pr_iconst hA (1) dX2_add_87 (by decide) ?_
    refine pr_aload_n hA dX2_add_88 rfl ?_
    refine pr_getE (v := (nI nl)) hA f_X2_37 rfl (wk_1 hw) ((ws_val (by decide)).trans ((pr_upv (by decide)).trans ((pr_upv (by decide)).trans ((pr_upv (by decide)).trans ((pr_upv (by decide)).trans ((pr_upv (by decide)).trans ((pr_upv (by decide)).trans ((pr_upv (by decide)).trans hnl)))))))) dX2_add_89 ?_
    refine pr_ishl hA dX2_add_92 ?_
    refine pr_ior hA dX2_add_93 ?_
    refine pr_putE (I' := (ws_put I w (pr_up (pr_up (pr_up (pr_up (pr_up (pr_up (pr_up (pr_up σ 2 nl b) 3 nl e) 4 nl u) 5 nl p) 6 nl t) 7 nl (0 : Int32)) 8 nl (0 : Int32)) 1 7 ((σ 1 7) ||| ((1 : Int32) <<< ((nI nl) &&& 31)))))) hA f_X2_33 rfl (wk_1 hw) (ws_up (by decide)) dX2_add_94 ?_
    refine pr_aload_n hA dX2_add_97 rfl ?_
    refine pr_dup hA dX2_add_98 rfl ?_
    refine pr_getE (v := (nI nl)) hA f_X2_37 rfl (wk_1 hw) ((ws_val (by decide)).trans ((pr_upk (by decide)).trans ((pr_upv (by decide)).trans ((pr_upv (by decide)).trans ((pr_upv (by decide)).trans ((pr_upv (by decide)).trans ((pr_upv (by decide)).trans ((pr_upv (by decide)).trans ((pr_upv (by decide)).trans hnl))))))))) dX2_add_99 ?_
    refine pr_iconst hA (1) dX2_add_102 (by decide) ?_
    refine pr_iaddE (v := nI (nl + 1)) hA (nI_1 _) dX2_add_103 ?_
    refine pr_putE (I' := (ws_put I w (pr_up (pr_up (pr_up (pr_up (pr_up (pr_up (pr_up (pr_up (pr_up σ 2 nl b) 3 nl e) 4 nl u) 5 nl p) 6 nl t) 7 nl (0 : Int32)) 8 nl (0 : Int32)) 1 7 ((σ 1 7) ||| ((1 : Int32) <<< ((nI nl) &&& 31)))) 1 8 (nI (nl + 1))))) hA f_X2_37 rfl (wk_1 hw) (ws_up (by decide)) dX2_add_104 ?_
    exact pr_return hA rfl (Nat.zero_le _) (Nat.zero_le _) dX2_add_107 ⟨rfl, rfl, (by simp only [lk_add, if_pos c_6]), rfl⟩
  · exact absurd ((nI_ltI (by omega) (by omega)).mpr hnl24) c_6

theorem fr_lk_add {σ : pr_I} {nl : Nat} {b : Int32} {e : Int32} {u : Int32} {p : Int32} {t : Int32} {o : Nat} (hms : ∀ m ∈ ([1, 2, 3, 4, 5, 6, 7, 8] : List Nat), o ≠ m) : lk_add σ nl b e u p t o = σ o := by
  unfold lk_add
  simp only [List.mem_cons, List.not_mem_nil, or_false, forall_eq_or_imp, forall_eq] at hms
  rw [pr_up_ne (by omega), pr_up_ne (by omega), pr_up_ne (by omega), pr_up_ne (by omega), pr_up_ne (by omega), pr_up_ne (by omega), pr_up_ne (by omega), pr_up_ne (by omega), pr_up_ne (by omega)]

def tk_post_it5 (σ : pr_I) (n : Nat) (h : Int32) (v : Int32) : Nat → pr_I × Int32
  | 0 => (σ, (0 : Int32))
  | k + 1 => (if (σ 10 k) = h then (if (σ 15 k) = 0 then ((pr_up (tk_post_it5 σ n h v k).1 14 k (if ((tk_post_it5 σ n h v k).1 14 k) < v then v else ((tk_post_it5 σ n h v k).1 14 k))), (((tk_post_it5 σ n h v k).2) + Int32.ofInt (1))) else ((tk_post_it5 σ n h v k).1, ((tk_post_it5 σ n h v k).2))) else ((tk_post_it5 σ n h v k).1, ((tk_post_it5 σ n h v k).2)))
theorem fr_tk_post_it5 {σ : pr_I} {n : Nat} {h : Int32} {v : Int32} {o : Nat} (hms : ∀ m ∈ ([14] : List Nat), o ≠ m) : ∀ {k : Nat}, (tk_post_it5 σ n h v k).1 o = σ o := by
  simp only [List.mem_cons, List.not_mem_nil, or_false, forall_eq_or_imp, forall_eq] at hms
  intro k
  induction k with
  | zero =>
    show σ o = σ o
    rfl
  | succ k ih =>
    by_cases c_22 : (σ 10 k) = h
    · refine (congrFun (congrArg (fun z : pr_I × Int32 => z.1) (if_pos c_22)) o).trans ?_
      by_cases c_32 : (σ 15 k) = 0
      · refine (congrFun (congrArg (fun z : pr_I × Int32 => z.1) (if_pos c_32)) o).trans ?_
        show (pr_up (tk_post_it5 σ n h v k).1 14 k (if ((tk_post_it5 σ n h v k).1 14 k) < v then v else ((tk_post_it5 σ n h v k).1 14 k))) o = σ o
        rw [pr_up_ne (by omega), ih]
      · refine (congrFun (congrArg (fun z : pr_I × Int32 => z.1) (if_neg c_32)) o).trans ?_
        show (tk_post_it5 σ n h v k).1 o = σ o
        rw [ih]
    · refine (congrFun (congrArg (fun z : pr_I × Int32 => z.1) (if_neg c_22)) o).trans ?_
      show (tk_post_it5 σ n h v k).1 o = σ o
      rw [ih]

def tk_post_r (σ : pr_I) (n : Nat) (h : Int32) (v : Int32) : Int32 := ((tk_post_it5 σ n h v n).2)
def tk_post (σ : pr_I) (n : Nat) (h : Int32) (v : Int32) : pr_I := (tk_post_it5 σ n h v n).1
set_option maxRecDepth 100000 in
set_option maxHeartbeats 4000000 in
theorem c_tk_post {g : pr_C} {l : Launch} (hl : l.stackTraces = false) {T : pr_T} {I : pr_I} {L : pr_L} {w : Nat} {σ : pr_I} {n : Nat} {h : Int32} {v : Int32} (hw : pr_W T w) (hn : σ 9 8 = nI n) (hn5 : n ≤ 500) : pr_M g l 2 0 0 mX5_postpone [.ref (w + 9), .int h, .int v] T (ws_put I w σ) L (pr_R (some (.int (tk_post_r σ n h v))) T (ws_put I w (tk_post σ n h v)) L) pr_no := by
  refine pr_ofG (by decide) rfl hl (Nat.le_of_ble_eq_true rfl) (fun X hA hX hXn hXt => ?_)
  subst hX
  show pr_G g X mX5_postpone.2.2.1 _ 0 0 0 [.ref (w + 9), .int h, .int v, .null, .null] [] T (ws_put I w σ) L
  refine pr_iconst hA (0) dX5_postpone_0 (by decide) ?_
  refine pr_istore_n (ls' := [_, _, _, _, _]) hA dX5_postpone_1 (by decide) rfl ?_
  refine pr_iconst hA (nI 0) dX5_postpone_2 (by decide) ?_
  refine pr_istore (ls' := [_, _, _, _, _]) hA dX5_postpone_3 (by decide) rfl ?_
  have lp5 : ∀ (j k : Nat), n - k = j → k ≤ n → pr_G g X mX5_postpone.2.2.1 (pr_MQ g X (pr_R (some (.int (tk_post_r σ n h v))) T (ws_put I w (tk_post σ n h v)) L) pr_no 0 0) 0 0 5 [.ref (w + 9), .int h, .int v, .int ((tk_post_it5 σ n h v k).2), .int (nI k)] [] T (ws_put I w (tk_post_it5 σ n h v k).1) L := by
    intro j
    induction j using Nat.strongRecOn with | ind j ih5 =>
    intro k hj5 hk5
    refine pr_iload hA dX5_postpone_5 rfl ?_
    refine pr_aload_n hA dX5_postpone_7 rfl ?_
    refine pr_getE (v := (nI n)) hA f_X5_36 rfl (wk_9 hw) ((ws_val (by decide)).trans ((congrFun (fr_tk_post_it5 (by decide)) _).trans hn)) dX5_postpone_8 ?_
    refine pr_icmp_ge hA 62 dX5_postpone_11 (by decide) (fun c_11 => ?_) (fun c_11 => ?_)
    · have n_11 : n ≤ k := (nI_leI (by omega) (by omega)).mp c_11
      have hex : n = k := by omega
      subst hex
      refine pr_iload_n hA dX5_postpone_62 rfl ?_
      exact pr_ireturn hA rfl rfl (Nat.zero_le _) (Nat.zero_le _) dX5_postpone_63 ⟨rfl, rfl, rfl, rfl⟩
    · have n_11 : ¬ n ≤ k := fun q => c_11 ((nI_leI (by omega) (by omega)).mpr q)
      refine pr_aload_n hA dX5_postpone_14 rfl ?_
      refine pr_getR hA f_X5_9 rfl (wk_9 hw) (wf_9_0 hw) dX5_postpone_15 ?_
      refine pr_iload hA dX5_postpone_18 rfl ?_
      refine pr_ialdN (v := (σ 10 k)) hA (wk_10 hw) (by omega) (by decide) ((ws_val (by decide)).trans (congrFun (fr_tk_post_it5 (by decide)) _)) dX5_postpone_20 ?_
      refine pr_iload_n hA dX5_postpone_21 rfl ?_
      refine pr_icmp_ne hA 56 dX5_postpone_22 (by decide) (fun c_22 => ?_) (fun c_22 => ?_)
      · refine pr_iinc (ls' := [_, _, _, _, _]) hA (nI (k + 1)) dX5_postpone_56 (by decide) rfl (nI_inc _) rfl ?_
        refine pr_goto hA 5 dX5_postpone_59 (by decide) ?_
        have hb := ih5 (n - (k + 1)) (by omega) (k + 1) rfl (by omega)
        simp only [tk_post_it5, if_neg c_22] at hb
        exact hb
      · refine pr_aload_n hA dX5_postpone_25 rfl ?_
        refine pr_getR hA f_X5_27 rfl (wk_9 hw) (wf_9_5 hw) dX5_postpone_26 ?_
        refine pr_iload hA dX5_postpone_29 rfl ?_
        refine pr_ialdN (v := (σ 15 k)) hA (wk_15 hw) (by omega) (by decide) ((ws_val (by decide)).trans (congrFun (fr_tk_post_it5 (by decide)) _)) dX5_postpone_31 ?_
        refine pr_if_ne hA 56 dX5_postpone_32 (by decide) (fun c_32 => ?_) (fun c_32 => ?_)
        · refine pr_iinc (ls' := [_, _, _, _, _]) hA (nI (k + 1)) dX5_postpone_56 (by decide) rfl (nI_inc _) rfl ?_
          refine pr_goto hA 5 dX5_postpone_59 (by decide) ?_
          have hb := ih5 (n - (k + 1)) (by omega) (k + 1) rfl (by omega)
          simp only [tk_post_it5, if_pos c_22, if_neg c_32] at hb
          exact hb
        · refine pr_iinc (ls' := [_, _, _, _, _]) hA (((tk_post_it5 σ n h v k).2) + Int32.ofInt (1)) dX5_postpone_35 (by decide) rfl rfl rfl ?_
          refine pr_aload_n hA dX5_postpone_38 rfl ?_
          refine pr_getR hA f_X5_24 rfl (wk_9 hw) (wf_9_4 hw) dX5_postpone_39 ?_
          refine pr_iload hA dX5_postpone_42 rfl ?_
          refine pr_aload_n hA dX5_postpone_44 rfl ?_
          refine pr_getR hA f_X5_24 rfl (wk_9 hw) (wf_9_4 hw) dX5_postpone_45 ?_
          refine pr_iload hA dX5_postpone_48 rfl ?_
          refine pr_ialdN (v := ((tk_post_it5 σ n h v k).1 14 k)) hA (wk_14 hw) (by omega) (by decide) (ws_val (by decide)) dX5_postpone_50 ?_
          refine pr_iload_n hA dX5_postpone_51 rfl ?_
          refine pr_mmax hA rfl ⟨kM_X5_44, kT_J9_max_7cf53, kZ_J9, kO_J9_max_7cf53⟩ (by decide) (Nat.zero_le _) (Nat.zero_le _) (Nat.le_of_ble_eq_true rfl) dX5_postpone_52 ?_
          refine pr_iastN (I' := (ws_put I w (pr_up (tk_post_it5 σ n h v k).1 14 k (if ((tk_post_it5 σ n h v k).1 14 k) < v then v else ((tk_post_it5 σ n h v k).1 14 k))))) hA (wk_14 hw) (by omega) (by decide) (ws_up (by decide)) dX5_postpone_55 ?_
          refine pr_iinc (ls' := [_, _, _, _, _]) hA (nI (k + 1)) dX5_postpone_56 (by decide) rfl (nI_inc _) rfl ?_
          refine pr_goto hA 5 dX5_postpone_59 (by decide) ?_
          have hb := ih5 (n - (k + 1)) (by omega) (k + 1) rfl (by omega)
          simp only [tk_post_it5, if_pos c_22, if_pos c_32] at hb
          exact hb
  exact (lp5 (n - 0) 0 rfl (by omega))

theorem fr_tk_post {σ : pr_I} {n : Nat} {h : Int32} {v : Int32} {o : Nat} (hms : ∀ m ∈ ([14] : List Nat), o ≠ m) : tk_post σ n h v o = σ o := by
  unfold tk_post
  simp only [List.mem_cons, List.not_mem_nil, or_false, forall_eq_or_imp, forall_eq] at hms
  rw [fr_tk_post_it5 (by simp only [List.mem_cons, List.not_mem_nil, or_false, forall_eq_or_imp, forall_eq]; omega)]

def lk_cp (σ : pr_I) (τ : pr_I) (nl : Nat) : pr_I := (pr_row (pr_row (pr_row (pr_row (pr_row (pr_row (pr_row (pr_up (pr_up σ 1 8 (nI nl)) 1 7 (τ 1 7)) 2 (cp_row (τ 2) (σ 2) nl)) 3 (cp_row (τ 3) (σ 3) nl)) 4 (cp_row (τ 4) (σ 4) nl)) 5 (cp_row (τ 5) (σ 5) nl)) 6 (cp_row (τ 6) (σ 6) nl)) 7 (cp_row (τ 7) (σ 7) nl)) 8 (cp_row (τ 8) (σ 8) nl))
set_option maxRecDepth 100000 in
set_option maxHeartbeats 4000000 in
theorem c_lk_cp {g : pr_C} {l : Launch} (hl : l.stackTraces = false) {T : pr_T} {I : pr_I} {L : pr_L} {w : Nat} {σ : pr_I} {τ : pr_I} {nl : Nat} (hw : pr_W T w) {v : Nat} (hv : pr_W T v) (hdis : v + 121 ≤ w ∨ w + 121 ≤ v) (hτ : τ 1 8 = nI nl) (hb : nl ≤ 24) : pr_M g l 2 0 0 mX2_copyFrom [.ref (w + 1), .ref (v + 1)] T (ws_put (ws_put I v τ) w σ) L (pr_R none T (ws_put (ws_put I v τ) w (lk_cp σ τ nl)) L) pr_no := by
  refine pr_ofG (by decide) rfl hl (Nat.le_of_ble_eq_true rfl) (fun X hA hX hXn hXt => ?_)
  subst hX
  show pr_G g X mX2_copyFrom.2.2.1 _ 0 0 0 [.ref (w + 1), .ref (v + 1)] [] T (ws_put (ws_put I v τ) w σ) L
  refine pr_aload_n hA dX2_copyFrom_0 rfl ?_
  refine pr_aload_n hA dX2_copyFrom_1 rfl ?_
  refine pr_getE (v := (nI nl)) hA f_X2_37 rfl (wk_1 hv) ((ws_outv (by omega)).trans ((ws_val (by decide)).trans hτ)) dX2_copyFrom_2 ?_
  refine pr_putE (I' := (ws_put (ws_put I v τ) w (pr_up σ 1 8 (nI nl)))) hA f_X2_37 rfl (wk_1 hw) (ws_up (by decide)) dX2_copyFrom_5 ?_
  refine pr_aload_n hA dX2_copyFrom_8 rfl ?_
  refine pr_aload_n hA dX2_copyFrom_9 rfl ?_
  refine pr_getE (v := (τ 1 7)) hA f_X2_33 rfl (wk_1 hv) ((ws_outv (by omega)).trans (ws_val (by decide))) dX2_copyFrom_10 ?_
  refine pr_putE (I' := (ws_put (ws_put I v τ) w (pr_up (pr_up σ 1 8 (nI nl)) 1 7 (τ 1 7)))) hA f_X2_33 rfl (wk_1 hw) (ws_up (by decide)) dX2_copyFrom_13 ?_
  refine pr_aload_n hA dX2_copyFrom_16 rfl ?_
  refine pr_getR hA f_X2_9 rfl (wk_1 hv) (wf_1_0 hv) dX2_copyFrom_17 ?_
  refine pr_iconst hA (nI 0) dX2_copyFrom_20 (by decide) ?_
  refine pr_aload_n hA dX2_copyFrom_21 rfl ?_
  refine pr_getR hA f_X2_9 rfl (wk_1 hw) (wf_1_0 hw) dX2_copyFrom_22 ?_
  refine pr_iconst hA (nI 0) dX2_copyFrom_25 (by decide) ?_
  refine pr_aload_n hA dX2_copyFrom_26 rfl ?_
  refine pr_getE (v := (nI nl)) hA f_X2_37 rfl (wk_1 hw) ((ws_val (by decide)).trans ((pr_upk (by decide)).trans pr_upe)) dX2_copyFrom_27 ?_
  refine pr_cpyE (I' := (ws_put (ws_put I v τ) w (pr_row (pr_up (pr_up σ 1 8 (nI nl)) 1 7 (τ 1 7)) 2 (cp_row (τ 2) (σ 2) nl)))) hA ⟨kM_X2_48, kN_System_arraycopy__Ljava_lang_Object_ILjava_lang_Object_II_V, kT_System_arraycopy__Ljava_lang_Object_ILjava_lang_Object_II_V, kZ_J10⟩ (by decide) (wk_2 hv) (wk_2 hw) (by omega) (by omega) (by omega) ((ws_out (by omega)).trans (ws_row (by decide))) ((ws_row (by decide)).trans ((pr_up_ne (by decide)).trans (pr_up_ne (by decide)))) (ws_put_row (by decide)) (Nat.le_of_ble_eq_true rfl) dX2_copyFrom_30 ?_
  refine pr_aload_n hA dX2_copyFrom_33 rfl ?_
  refine pr_getR hA f_X2_15 rfl (wk_1 hv) (wf_1_1 hv) dX2_copyFrom_34 ?_
  refine pr_iconst hA (nI 0) dX2_copyFrom_37 (by decide) ?_
  refine pr_aload_n hA dX2_copyFrom_38 rfl ?_
  refine pr_getR hA f_X2_15 rfl (wk_1 hw) (wf_1_1 hw) dX2_copyFrom_39 ?_
  refine pr_iconst hA (nI 0) dX2_copyFrom_42 (by decide) ?_
  refine pr_aload_n hA dX2_copyFrom_43 rfl ?_
  refine pr_getE (v := (nI nl)) hA f_X2_37 rfl (wk_1 hw) ((ws_val (by decide)).trans ((pr_rwv (by decide)).trans ((pr_upk (by decide)).trans pr_upe))) dX2_copyFrom_44 ?_
  refine pr_cpyE (I' := (ws_put (ws_put I v τ) w (pr_row (pr_row (pr_up (pr_up σ 1 8 (nI nl)) 1 7 (τ 1 7)) 2 (cp_row (τ 2) (σ 2) nl)) 3 (cp_row (τ 3) (σ 3) nl)))) hA ⟨kM_X2_48, kN_System_arraycopy__Ljava_lang_Object_ILjava_lang_Object_II_V, kT_System_arraycopy__Ljava_lang_Object_ILjava_lang_Object_II_V, kZ_J10⟩ (by decide) (wk_3 hv) (wk_3 hw) (by omega) (by omega) (by omega) ((ws_out (by omega)).trans (ws_row (by decide))) ((ws_row (by decide)).trans ((pr_row_ne (by decide)).trans ((pr_up_ne (by decide)).trans (pr_up_ne (by decide))))) (ws_put_row (by decide)) (Nat.le_of_ble_eq_true rfl) dX2_copyFrom_47 ?_
  refine pr_aload_n hA dX2_copyFrom_50 rfl ?_
  refine pr_getR hA f_X2_18 rfl (wk_1 hv) (wf_1_2 hv) dX2_copyFrom_51 ?_
  refine pr_iconst hA (nI 0) dX2_copyFrom_54 (by decide) ?_
  refine pr_aload_n hA dX2_copyFrom_55 rfl ?_
  refine pr_getR hA f_X2_18 rfl (wk_1 hw) (wf_1_2 hw) dX2_copyFrom_56 ?_
  refine pr_iconst hA (nI 0) dX2_copyFrom_59 (by decide) ?_
  refine pr_aload_n hA dX2_copyFrom_60 rfl ?_
  refine pr_getE (v := (nI nl)) hA f_X2_37 rfl (wk_1 hw) ((ws_val (by decide)).trans ((pr_rwv (by decide)).trans ((pr_rwv (by decide)).trans ((pr_upk (by decide)).trans pr_upe)))) dX2_copyFrom_61 ?_
  refine pr_cpyE (I' := (ws_put (ws_put I v τ) w (pr_row (pr_row (pr_row (pr_up (pr_up σ 1 8 (nI nl)) 1 7 (τ 1 7)) 2 (cp_row (τ 2) (σ 2) nl)) 3 (cp_row (τ 3) (σ 3) nl)) 4 (cp_row (τ 4) (σ 4) nl)))) hA ⟨kM_X2_48, kN_System_arraycopy__Ljava_lang_Object_ILjava_lang_Object_II_V, kT_System_arraycopy__Ljava_lang_Object_ILjava_lang_Object_II_V, kZ_J10⟩ (by decide) (wk_4 hv) (wk_4 hw) (by omega) (by omega) (by omega) ((ws_out (by omega)).trans (ws_row (by decide))) ((ws_row (by decide)).trans ((pr_row_ne (by decide)).trans ((pr_row_ne (by decide)).trans ((pr_up_ne (by decide)).trans (pr_up_ne (by decide)))))) (ws_put_row (by decide)) (Nat.le_of_ble_eq_true rfl) dX2_copyFrom_64 ?_
  refine pr_aload_n hA dX2_copyFrom_67 rfl ?_
  refine pr_getR hA f_X2_21 rfl (wk_1 hv) (wf_1_3 hv) dX2_copyFrom_68 ?_
  refine pr_iconst hA (nI 0) dX2_copyFrom_71 (by decide) ?_
  refine pr_aload_n hA dX2_copyFrom_72 rfl ?_
  refine pr_getR hA f_X2_21 rfl (wk_1 hw) (wf_1_3 hw) dX2_copyFrom_73 ?_
  refine pr_iconst hA (nI 0) dX2_copyFrom_76 (by decide) ?_
  refine pr_aload_n hA dX2_copyFrom_77 rfl ?_
  refine pr_getE (v := (nI nl)) hA f_X2_37 rfl (wk_1 hw) ((ws_val (by decide)).trans ((pr_rwv (by decide)).trans ((pr_rwv (by decide)).trans ((pr_rwv (by decide)).trans ((pr_upk (by decide)).trans pr_upe))))) dX2_copyFrom_78 ?_
  refine pr_cpyE (I' := (ws_put (ws_put I v τ) w (pr_row (pr_row (pr_row (pr_row (pr_up (pr_up σ 1 8 (nI nl)) 1 7 (τ 1 7)) 2 (cp_row (τ 2) (σ 2) nl)) 3 (cp_row (τ 3) (σ 3) nl)) 4 (cp_row (τ 4) (σ 4) nl)) 5 (cp_row (τ 5) (σ 5) nl)))) hA ⟨kM_X2_48, kN_System_arraycopy__Ljava_lang_Object_ILjava_lang_Object_II_V, kT_System_arraycopy__Ljava_lang_Object_ILjava_lang_Object_II_V, kZ_J10⟩ (by decide) (wk_5 hv) (wk_5 hw) (by omega) (by omega) (by omega) ((ws_out (by omega)).trans (ws_row (by decide))) ((ws_row (by decide)).trans ((pr_row_ne (by decide)).trans ((pr_row_ne (by decide)).trans ((pr_row_ne (by decide)).trans ((pr_up_ne (by decide)).trans (pr_up_ne (by decide))))))) (ws_put_row (by decide)) (Nat.le_of_ble_eq_true rfl) dX2_copyFrom_81 ?_
  refine pr_aload_n hA dX2_copyFrom_84 rfl ?_
  refine pr_getR hA f_X2_24 rfl (wk_1 hv) (wf_1_4 hv) dX2_copyFrom_85 ?_
  refine pr_iconst hA (nI 0) dX2_copyFrom_88 (by decide) ?_
  refine pr_aload_n hA dX2_copyFrom_89 rfl ?_
  refine pr_getR hA f_X2_24 rfl (wk_1 hw) (wf_1_4 hw) dX2_copyFrom_90 ?_
  refine pr_iconst hA (nI 0) dX2_copyFrom_93 (by decide) ?_
  refine pr_aload_n hA dX2_copyFrom_94 rfl ?_
  refine pr_getE (v := (nI nl)) hA f_X2_37 rfl (wk_1 hw) ((ws_val (by decide)).trans ((pr_rwv (by decide)).trans ((pr_rwv (by decide)).trans ((pr_rwv (by decide)).trans ((pr_rwv (by decide)).trans ((pr_upk (by decide)).trans pr_upe)))))) dX2_copyFrom_95 ?_
  refine pr_cpyE (I' := (ws_put (ws_put I v τ) w (pr_row (pr_row (pr_row (pr_row (pr_row (pr_up (pr_up σ 1 8 (nI nl)) 1 7 (τ 1 7)) 2 (cp_row (τ 2) (σ 2) nl)) 3 (cp_row (τ 3) (σ 3) nl)) 4 (cp_row (τ 4) (σ 4) nl)) 5 (cp_row (τ 5) (σ 5) nl)) 6 (cp_row (τ 6) (σ 6) nl)))) hA ⟨kM_X2_48, kN_System_arraycopy__Ljava_lang_Object_ILjava_lang_Object_II_V, kT_System_arraycopy__Ljava_lang_Object_ILjava_lang_Object_II_V, kZ_J10⟩ (by decide) (wk_6 hv) (wk_6 hw) (by omega) (by omega) (by omega) ((ws_out (by omega)).trans (ws_row (by decide))) ((ws_row (by decide)).trans ((pr_row_ne (by decide)).trans ((pr_row_ne (by decide)).trans ((pr_row_ne (by decide)).trans ((pr_row_ne (by decide)).trans ((pr_up_ne (by decide)).trans (pr_up_ne (by decide)))))))) (ws_put_row (by decide)) (Nat.le_of_ble_eq_true rfl) dX2_copyFrom_98 ?_
  refine pr_aload_n hA dX2_copyFrom_101 rfl ?_
  refine pr_getR hA f_X2_27 rfl (wk_1 hv) (wf_1_5 hv) dX2_copyFrom_102 ?_
  refine pr_iconst hA (nI 0) dX2_copyFrom_105 (by decide) ?_
  refine pr_aload_n hA dX2_copyFrom_106 rfl ?_
  refine pr_getR hA f_X2_27 rfl (wk_1 hw) (wf_1_5 hw) dX2_copyFrom_107 ?_
  refine pr_iconst hA (nI 0) dX2_copyFrom_110 (by decide) ?_
  refine pr_aload_n hA dX2_copyFrom_111 rfl ?_
  refine pr_getE (v := (nI nl)) hA f_X2_37 rfl (wk_1 hw) ((ws_val (by decide)).trans ((pr_rwv (by decide)).trans ((pr_rwv (by decide)).trans ((pr_rwv (by decide)).trans ((pr_rwv (by decide)).trans ((pr_rwv (by decide)).trans ((pr_upk (by decide)).trans pr_upe))))))) dX2_copyFrom_112 ?_
  refine pr_cpyE (I' := (ws_put (ws_put I v τ) w (pr_row (pr_row (pr_row (pr_row (pr_row (pr_row (pr_up (pr_up σ 1 8 (nI nl)) 1 7 (τ 1 7)) 2 (cp_row (τ 2) (σ 2) nl)) 3 (cp_row (τ 3) (σ 3) nl)) 4 (cp_row (τ 4) (σ 4) nl)) 5 (cp_row (τ 5) (σ 5) nl)) 6 (cp_row (τ 6) (σ 6) nl)) 7 (cp_row (τ 7) (σ 7) nl)))) hA ⟨kM_X2_48, kN_System_arraycopy__Ljava_lang_Object_ILjava_lang_Object_II_V, kT_System_arraycopy__Ljava_lang_Object_ILjava_lang_Object_II_V, kZ_J10⟩ (by decide) (wk_7 hv) (wk_7 hw) (by omega) (by omega) (by omega) ((ws_out (by omega)).trans (ws_row (by decide))) ((ws_row (by decide)).trans ((pr_row_ne (by decide)).trans ((pr_row_ne (by decide)).trans ((pr_row_ne (by decide)).trans ((pr_row_ne (by decide)).trans ((pr_row_ne (by decide)).trans ((pr_up_ne (by decide)).trans (pr_up_ne (by decide))))))))) (ws_put_row (by decide)) (Nat.le_of_ble_eq_true rfl) dX2_copyFrom_115 ?_
  refine pr_aload_n hA dX2_copyFrom_118 rfl ?_
  refine pr_getR hA f_X2_30 rfl (wk_1 hv) (wf_1_6 hv) dX2_copyFrom_119 ?_
  refine pr_iconst hA (nI 0) dX2_copyFrom_122 (by decide) ?_
  refine pr_aload_n hA dX2_copyFrom_123 rfl ?_
  refine pr_getR hA f_X2_30 rfl (wk_1 hw) (wf_1_6 hw) dX2_copyFrom_124 ?_
  refine pr_iconst hA (nI 0) dX2_copyFrom_127 (by decide) ?_
  refine pr_aload_n hA dX2_copyFrom_128 rfl ?_
  refine pr_getE (v := (nI nl)) hA f_X2_37 rfl (wk_1 hw) ((ws_val (by decide)).trans ((pr_rwv (by decide)).trans ((pr_rwv (by decide)).trans ((pr_rwv (by decide)).trans ((pr_rwv (by decide)).trans ((pr_rwv (by decide)).trans ((pr_rwv (by decide)).trans ((pr_upk (by decide)).trans pr_upe)))))))) dX2_copyFrom_129 ?_
  refine pr_cpyE (I' := (ws_put (ws_put I v τ) w (pr_row (pr_row (pr_row (pr_row (pr_row (pr_row (pr_row (pr_up (pr_up σ 1 8 (nI nl)) 1 7 (τ 1 7)) 2 (cp_row (τ 2) (σ 2) nl)) 3 (cp_row (τ 3) (σ 3) nl)) 4 (cp_row (τ 4) (σ 4) nl)) 5 (cp_row (τ 5) (σ 5) nl)) 6 (cp_row (τ 6) (σ 6) nl)) 7 (cp_row (τ 7) (σ 7) nl)) 8 (cp_row (τ 8) (σ 8) nl)))) hA ⟨kM_X2_48, kN_System_arraycopy__Ljava_lang_Object_ILjava_lang_Object_II_V, kT_System_arraycopy__Ljava_lang_Object_ILjava_lang_Object_II_V, kZ_J10⟩ (by decide) (wk_8 hv) (wk_8 hw) (by omega) (by omega) (by omega) ((ws_out (by omega)).trans (ws_row (by decide))) ((ws_row (by decide)).trans ((pr_row_ne (by decide)).trans ((pr_row_ne (by decide)).trans ((pr_row_ne (by decide)).trans ((pr_row_ne (by decide)).trans ((pr_row_ne (by decide)).trans ((pr_row_ne (by decide)).trans ((pr_up_ne (by decide)).trans (pr_up_ne (by decide)))))))))) (ws_put_row (by decide)) (Nat.le_of_ble_eq_true rfl) dX2_copyFrom_132 ?_
  exact pr_return hA rfl (Nat.zero_le _) (Nat.zero_le _) dX2_copyFrom_135 ⟨rfl, rfl, rfl, rfl⟩

theorem fr_lk_cp {σ : pr_I} {τ : pr_I} {nl : Nat} {o : Nat} (hms : ∀ m ∈ ([1, 2, 3, 4, 5, 6, 7, 8] : List Nat), o ≠ m) : lk_cp σ τ nl o = σ o := by
  unfold lk_cp
  simp only [List.mem_cons, List.not_mem_nil, or_false, forall_eq_or_imp, forall_eq] at hms
  rw [pr_row_ne (by omega), pr_row_ne (by omega), pr_row_ne (by omega), pr_row_ne (by omega), pr_row_ne (by omega), pr_row_ne (by omega), pr_row_ne (by omega), pr_up_ne (by omega), pr_up_ne (by omega)]

def tk_cp (σ : pr_I) (τ : pr_I) (n : Nat) : pr_I := (pr_row (pr_row (pr_row (pr_row (pr_row (pr_row (pr_row (pr_row (pr_up σ 9 8 (nI n)) 10 (cp_row (τ 10) (σ 10) n)) 11 (cp_row (τ 11) (σ 11) n)) 12 (cp_row (τ 12) (σ 12) n)) 13 (cp_row (τ 13) (σ 13) n)) 14 (cp_row (τ 14) (σ 14) n)) 15 (cp_row (τ 15) (σ 15) n)) 16 (cp_row (τ 16) (σ 16) n)) 17 (cp_row (τ 17) (σ 17) n))
set_option maxRecDepth 100000 in
set_option maxHeartbeats 4000000 in
theorem c_tk_cp {g : pr_C} {l : Launch} (hl : l.stackTraces = false) {T : pr_T} {I : pr_I} {L : pr_L} {w : Nat} {σ : pr_I} {τ : pr_I} {n : Nat} (hw : pr_W T w) {v : Nat} (hv : pr_W T v) (hdis : v + 121 ≤ w ∨ w + 121 ≤ v) (hτ : τ 9 8 = nI n) (hb : n ≤ 500) : pr_M g l 2 0 0 mX5_copyFrom [.ref (w + 9), .ref (v + 9)] T (ws_put (ws_put I v τ) w σ) L (pr_R none T (ws_put (ws_put I v τ) w (tk_cp σ τ n)) L) pr_no := by
  refine pr_ofG (by decide) rfl hl (Nat.le_of_ble_eq_true rfl) (fun X hA hX hXn hXt => ?_)
  subst hX
  show pr_G g X mX5_copyFrom.2.2.1 _ 0 0 0 [.ref (w + 9), .ref (v + 9)] [] T (ws_put (ws_put I v τ) w σ) L
  refine pr_aload_n hA dX5_copyFrom_0 rfl ?_
  refine pr_aload_n hA dX5_copyFrom_1 rfl ?_
  refine pr_getE (v := (nI n)) hA f_X5_36 rfl (wk_9 hv) ((ws_outv (by omega)).trans ((ws_val (by decide)).trans hτ)) dX5_copyFrom_2 ?_
  refine pr_putE (I' := (ws_put (ws_put I v τ) w (pr_up σ 9 8 (nI n)))) hA f_X5_36 rfl (wk_9 hw) (ws_up (by decide)) dX5_copyFrom_5 ?_
  refine pr_aload_n hA dX5_copyFrom_8 rfl ?_
  refine pr_getR hA f_X5_9 rfl (wk_9 hv) (wf_9_0 hv) dX5_copyFrom_9 ?_
  refine pr_iconst hA (nI 0) dX5_copyFrom_12 (by decide) ?_
  refine pr_aload_n hA dX5_copyFrom_13 rfl ?_
  refine pr_getR hA f_X5_9 rfl (wk_9 hw) (wf_9_0 hw) dX5_copyFrom_14 ?_
  refine pr_iconst hA (nI 0) dX5_copyFrom_17 (by decide) ?_
  refine pr_aload_n hA dX5_copyFrom_18 rfl ?_
  refine pr_getE (v := (nI n)) hA f_X5_36 rfl (wk_9 hw) ((ws_val (by decide)).trans pr_upe) dX5_copyFrom_19 ?_
  refine pr_cpyE (I' := (ws_put (ws_put I v τ) w (pr_row (pr_up σ 9 8 (nI n)) 10 (cp_row (τ 10) (σ 10) n)))) hA ⟨kM_X5_50, kN_System_arraycopy__Ljava_lang_Object_ILjava_lang_Object_II_V, kT_System_arraycopy__Ljava_lang_Object_ILjava_lang_Object_II_V, kZ_J10⟩ (by decide) (wk_10 hv) (wk_10 hw) (by omega) (by omega) (by omega) ((ws_out (by omega)).trans (ws_row (by decide))) ((ws_row (by decide)).trans (pr_up_ne (by decide))) (ws_put_row (by decide)) (Nat.le_of_ble_eq_true rfl) dX5_copyFrom_22 ?_
  refine pr_aload_n hA dX5_copyFrom_25 rfl ?_
  refine pr_getR hA f_X5_15 rfl (wk_9 hv) (wf_9_1 hv) dX5_copyFrom_26 ?_
  refine pr_iconst hA (nI 0) dX5_copyFrom_29 (by decide) ?_
  refine pr_aload_n hA dX5_copyFrom_30 rfl ?_
  refine pr_getR hA f_X5_15 rfl (wk_9 hw) (wf_9_1 hw) dX5_copyFrom_31 ?_
  refine pr_iconst hA (nI 0) dX5_copyFrom_34 (by decide) ?_
  refine pr_aload_n hA dX5_copyFrom_35 rfl ?_
  refine pr_getE (v := (nI n)) hA f_X5_36 rfl (wk_9 hw) ((ws_val (by decide)).trans ((pr_rwv (by decide)).trans pr_upe)) dX5_copyFrom_36 ?_
  refine pr_cpyE (I' := (ws_put (ws_put I v τ) w (pr_row (pr_row (pr_up σ 9 8 (nI n)) 10 (cp_row (τ 10) (σ 10) n)) 11 (cp_row (τ 11) (σ 11) n)))) hA ⟨kM_X5_50, kN_System_arraycopy__Ljava_lang_Object_ILjava_lang_Object_II_V, kT_System_arraycopy__Ljava_lang_Object_ILjava_lang_Object_II_V, kZ_J10⟩ (by decide) (wk_11 hv) (wk_11 hw) (by omega) (by omega) (by omega) ((ws_out (by omega)).trans (ws_row (by decide))) ((ws_row (by decide)).trans ((pr_row_ne (by decide)).trans (pr_up_ne (by decide)))) (ws_put_row (by decide)) (Nat.le_of_ble_eq_true rfl) dX5_copyFrom_39 ?_
  refine pr_aload_n hA dX5_copyFrom_42 rfl ?_
  refine pr_getR hA f_X5_18 rfl (wk_9 hv) (wf_9_2 hv) dX5_copyFrom_43 ?_
  refine pr_iconst hA (nI 0) dX5_copyFrom_46 (by decide) ?_
  refine pr_aload_n hA dX5_copyFrom_47 rfl ?_
  refine pr_getR hA f_X5_18 rfl (wk_9 hw) (wf_9_2 hw) dX5_copyFrom_48 ?_
  refine pr_iconst hA (nI 0) dX5_copyFrom_51 (by decide) ?_
  refine pr_aload_n hA dX5_copyFrom_52 rfl ?_
  refine pr_getE (v := (nI n)) hA f_X5_36 rfl (wk_9 hw) ((ws_val (by decide)).trans ((pr_rwv (by decide)).trans ((pr_rwv (by decide)).trans pr_upe))) dX5_copyFrom_53 ?_
  refine pr_cpyE (I' := (ws_put (ws_put I v τ) w (pr_row (pr_row (pr_row (pr_up σ 9 8 (nI n)) 10 (cp_row (τ 10) (σ 10) n)) 11 (cp_row (τ 11) (σ 11) n)) 12 (cp_row (τ 12) (σ 12) n)))) hA ⟨kM_X5_50, kN_System_arraycopy__Ljava_lang_Object_ILjava_lang_Object_II_V, kT_System_arraycopy__Ljava_lang_Object_ILjava_lang_Object_II_V, kZ_J10⟩ (by decide) (wk_12 hv) (wk_12 hw) (by omega) (by omega) (by omega) ((ws_out (by omega)).trans (ws_row (by decide))) ((ws_row (by decide)).trans ((pr_row_ne (by decide)).trans ((pr_row_ne (by decide)).trans (pr_up_ne (by decide))))) (ws_put_row (by decide)) (Nat.le_of_ble_eq_true rfl) dX5_copyFrom_56 ?_
  refine pr_aload_n hA dX5_copyFrom_59 rfl ?_
  refine pr_getR hA f_X5_21 rfl (wk_9 hv) (wf_9_3 hv) dX5_copyFrom_60 ?_
  refine pr_iconst hA (nI 0) dX5_copyFrom_63 (by decide) ?_
  refine pr_aload_n hA dX5_copyFrom_64 rfl ?_
  refine pr_getR hA f_X5_21 rfl (wk_9 hw) (wf_9_3 hw) dX5_copyFrom_65 ?_
  refine pr_iconst hA (nI 0) dX5_copyFrom_68 (by decide) ?_
  refine pr_aload_n hA dX5_copyFrom_69 rfl ?_
  refine pr_getE (v := (nI n)) hA f_X5_36 rfl (wk_9 hw) ((ws_val (by decide)).trans ((pr_rwv (by decide)).trans ((pr_rwv (by decide)).trans ((pr_rwv (by decide)).trans pr_upe)))) dX5_copyFrom_70 ?_
  refine pr_cpyE (I' := (ws_put (ws_put I v τ) w (pr_row (pr_row (pr_row (pr_row (pr_up σ 9 8 (nI n)) 10 (cp_row (τ 10) (σ 10) n)) 11 (cp_row (τ 11) (σ 11) n)) 12 (cp_row (τ 12) (σ 12) n)) 13 (cp_row (τ 13) (σ 13) n)))) hA ⟨kM_X5_50, kN_System_arraycopy__Ljava_lang_Object_ILjava_lang_Object_II_V, kT_System_arraycopy__Ljava_lang_Object_ILjava_lang_Object_II_V, kZ_J10⟩ (by decide) (wk_13 hv) (wk_13 hw) (by omega) (by omega) (by omega) ((ws_out (by omega)).trans (ws_row (by decide))) ((ws_row (by decide)).trans ((pr_row_ne (by decide)).trans ((pr_row_ne (by decide)).trans ((pr_row_ne (by decide)).trans (pr_up_ne (by decide)))))) (ws_put_row (by decide)) (Nat.le_of_ble_eq_true rfl) dX5_copyFrom_73 ?_
  refine pr_aload_n hA dX5_copyFrom_76 rfl ?_
  refine pr_getR hA f_X5_24 rfl (wk_9 hv) (wf_9_4 hv) dX5_copyFrom_77 ?_
  refine pr_iconst hA (nI 0) dX5_copyFrom_80 (by decide) ?_
  refine pr_aload_n hA dX5_copyFrom_81 rfl ?_
  refine pr_getR hA f_X5_24 rfl (wk_9 hw) (wf_9_4 hw) dX5_copyFrom_82 ?_
  refine pr_iconst hA (nI 0) dX5_copyFrom_85 (by decide) ?_
  refine pr_aload_n hA dX5_copyFrom_86 rfl ?_
  refine pr_getE (v := (nI n)) hA f_X5_36 rfl (wk_9 hw) ((ws_val (by decide)).trans ((pr_rwv (by decide)).trans ((pr_rwv (by decide)).trans ((pr_rwv (by decide)).trans ((pr_rwv (by decide)).trans pr_upe))))) dX5_copyFrom_87 ?_
  refine pr_cpyE (I' := (ws_put (ws_put I v τ) w (pr_row (pr_row (pr_row (pr_row (pr_row (pr_up σ 9 8 (nI n)) 10 (cp_row (τ 10) (σ 10) n)) 11 (cp_row (τ 11) (σ 11) n)) 12 (cp_row (τ 12) (σ 12) n)) 13 (cp_row (τ 13) (σ 13) n)) 14 (cp_row (τ 14) (σ 14) n)))) hA ⟨kM_X5_50, kN_System_arraycopy__Ljava_lang_Object_ILjava_lang_Object_II_V, kT_System_arraycopy__Ljava_lang_Object_ILjava_lang_Object_II_V, kZ_J10⟩ (by decide) (wk_14 hv) (wk_14 hw) (by omega) (by omega) (by omega) ((ws_out (by omega)).trans (ws_row (by decide))) ((ws_row (by decide)).trans ((pr_row_ne (by decide)).trans ((pr_row_ne (by decide)).trans ((pr_row_ne (by decide)).trans ((pr_row_ne (by decide)).trans (pr_up_ne (by decide))))))) (ws_put_row (by decide)) (Nat.le_of_ble_eq_true rfl) dX5_copyFrom_90 ?_
  refine pr_aload_n hA dX5_copyFrom_93 rfl ?_
  refine pr_getR hA f_X5_27 rfl (wk_9 hv) (wf_9_5 hv) dX5_copyFrom_94 ?_
  refine pr_iconst hA (nI 0) dX5_copyFrom_97 (by decide) ?_
  refine pr_aload_n hA dX5_copyFrom_98 rfl ?_
  refine pr_getR hA f_X5_27 rfl (wk_9 hw) (wf_9_5 hw) dX5_copyFrom_99 ?_
  refine pr_iconst hA (nI 0) dX5_copyFrom_102 (by decide) ?_
  refine pr_aload_n hA dX5_copyFrom_103 rfl ?_
  refine pr_getE (v := (nI n)) hA f_X5_36 rfl (wk_9 hw) ((ws_val (by decide)).trans ((pr_rwv (by decide)).trans ((pr_rwv (by decide)).trans ((pr_rwv (by decide)).trans ((pr_rwv (by decide)).trans ((pr_rwv (by decide)).trans pr_upe)))))) dX5_copyFrom_104 ?_
  refine pr_cpyE (I' := (ws_put (ws_put I v τ) w (pr_row (pr_row (pr_row (pr_row (pr_row (pr_row (pr_up σ 9 8 (nI n)) 10 (cp_row (τ 10) (σ 10) n)) 11 (cp_row (τ 11) (σ 11) n)) 12 (cp_row (τ 12) (σ 12) n)) 13 (cp_row (τ 13) (σ 13) n)) 14 (cp_row (τ 14) (σ 14) n)) 15 (cp_row (τ 15) (σ 15) n)))) hA ⟨kM_X5_50, kN_System_arraycopy__Ljava_lang_Object_ILjava_lang_Object_II_V, kT_System_arraycopy__Ljava_lang_Object_ILjava_lang_Object_II_V, kZ_J10⟩ (by decide) (wk_15 hv) (wk_15 hw) (by omega) (by omega) (by omega) ((ws_out (by omega)).trans (ws_row (by decide))) ((ws_row (by decide)).trans ((pr_row_ne (by decide)).trans ((pr_row_ne (by decide)).trans ((pr_row_ne (by decide)).trans ((pr_row_ne (by decide)).trans ((pr_row_ne (by decide)).trans (pr_up_ne (by decide)))))))) (ws_put_row (by decide)) (Nat.le_of_ble_eq_true rfl) dX5_copyFrom_107 ?_
  refine pr_aload_n hA dX5_copyFrom_110 rfl ?_
  refine pr_getR hA f_X5_30 rfl (wk_9 hv) (wf_9_6 hv) dX5_copyFrom_111 ?_
  refine pr_iconst hA (nI 0) dX5_copyFrom_114 (by decide) ?_
  refine pr_aload_n hA dX5_copyFrom_115 rfl ?_
  refine pr_getR hA f_X5_30 rfl (wk_9 hw) (wf_9_6 hw) dX5_copyFrom_116 ?_
  refine pr_iconst hA (nI 0) dX5_copyFrom_119 (by decide) ?_
  refine pr_aload_n hA dX5_copyFrom_120 rfl ?_
  refine pr_getE (v := (nI n)) hA f_X5_36 rfl (wk_9 hw) ((ws_val (by decide)).trans ((pr_rwv (by decide)).trans ((pr_rwv (by decide)).trans ((pr_rwv (by decide)).trans ((pr_rwv (by decide)).trans ((pr_rwv (by decide)).trans ((pr_rwv (by decide)).trans pr_upe))))))) dX5_copyFrom_121 ?_
  refine pr_cpyE (I' := (ws_put (ws_put I v τ) w (pr_row (pr_row (pr_row (pr_row (pr_row (pr_row (pr_row (pr_up σ 9 8 (nI n)) 10 (cp_row (τ 10) (σ 10) n)) 11 (cp_row (τ 11) (σ 11) n)) 12 (cp_row (τ 12) (σ 12) n)) 13 (cp_row (τ 13) (σ 13) n)) 14 (cp_row (τ 14) (σ 14) n)) 15 (cp_row (τ 15) (σ 15) n)) 16 (cp_row (τ 16) (σ 16) n)))) hA ⟨kM_X5_50, kN_System_arraycopy__Ljava_lang_Object_ILjava_lang_Object_II_V, kT_System_arraycopy__Ljava_lang_Object_ILjava_lang_Object_II_V, kZ_J10⟩ (by decide) (wk_16 hv) (wk_16 hw) (by omega) (by omega) (by omega) ((ws_out (by omega)).trans (ws_row (by decide))) ((ws_row (by decide)).trans ((pr_row_ne (by decide)).trans ((pr_row_ne (by decide)).trans ((pr_row_ne (by decide)).trans ((pr_row_ne (by decide)).trans ((pr_row_ne (by decide)).trans ((pr_row_ne (by decide)).trans (pr_up_ne (by decide))))))))) (ws_put_row (by decide)) (Nat.le_of_ble_eq_true rfl) dX5_copyFrom_124 ?_
  refine pr_aload_n hA dX5_copyFrom_127 rfl ?_
  refine pr_getR hA f_X5_33 rfl (wk_9 hv) (wf_9_7 hv) dX5_copyFrom_128 ?_
  refine pr_iconst hA (nI 0) dX5_copyFrom_131 (by decide) ?_
  refine pr_aload_n hA dX5_copyFrom_132 rfl ?_
  refine pr_getR hA f_X5_33 rfl (wk_9 hw) (wf_9_7 hw) dX5_copyFrom_133 ?_
  refine pr_iconst hA (nI 0) dX5_copyFrom_136 (by decide) ?_
  refine pr_aload_n hA dX5_copyFrom_137 rfl ?_
  refine pr_getE (v := (nI n)) hA f_X5_36 rfl (wk_9 hw) ((ws_val (by decide)).trans ((pr_rwv (by decide)).trans ((pr_rwv (by decide)).trans ((pr_rwv (by decide)).trans ((pr_rwv (by decide)).trans ((pr_rwv (by decide)).trans ((pr_rwv (by decide)).trans ((pr_rwv (by decide)).trans pr_upe)))))))) dX5_copyFrom_138 ?_
  refine pr_cpyE (I' := (ws_put (ws_put I v τ) w (pr_row (pr_row (pr_row (pr_row (pr_row (pr_row (pr_row (pr_row (pr_up σ 9 8 (nI n)) 10 (cp_row (τ 10) (σ 10) n)) 11 (cp_row (τ 11) (σ 11) n)) 12 (cp_row (τ 12) (σ 12) n)) 13 (cp_row (τ 13) (σ 13) n)) 14 (cp_row (τ 14) (σ 14) n)) 15 (cp_row (τ 15) (σ 15) n)) 16 (cp_row (τ 16) (σ 16) n)) 17 (cp_row (τ 17) (σ 17) n)))) hA ⟨kM_X5_50, kN_System_arraycopy__Ljava_lang_Object_ILjava_lang_Object_II_V, kT_System_arraycopy__Ljava_lang_Object_ILjava_lang_Object_II_V, kZ_J10⟩ (by decide) (wk_17 hv) (wk_17 hw) (by omega) (by omega) (by omega) ((ws_out (by omega)).trans (ws_row (by decide))) ((ws_row (by decide)).trans ((pr_row_ne (by decide)).trans ((pr_row_ne (by decide)).trans ((pr_row_ne (by decide)).trans ((pr_row_ne (by decide)).trans ((pr_row_ne (by decide)).trans ((pr_row_ne (by decide)).trans ((pr_row_ne (by decide)).trans (pr_up_ne (by decide)))))))))) (ws_put_row (by decide)) (Nat.le_of_ble_eq_true rfl) dX5_copyFrom_141 ?_
  exact pr_return hA rfl (Nat.zero_le _) (Nat.zero_le _) dX5_copyFrom_144 ⟨rfl, rfl, rfl, rfl⟩

theorem fr_tk_cp {σ : pr_I} {τ : pr_I} {n : Nat} {o : Nat} (hms : ∀ m ∈ ([9, 10, 11, 12, 13, 14, 15, 16, 17] : List Nat), o ≠ m) : tk_cp σ τ n o = σ o := by
  unfold tk_cp
  simp only [List.mem_cons, List.not_mem_nil, or_false, forall_eq_or_imp, forall_eq] at hms
  rw [pr_row_ne (by omega), pr_row_ne (by omega), pr_row_ne (by omega), pr_row_ne (by omega), pr_row_ne (by omega), pr_row_ne (by omega), pr_row_ne (by omega), pr_row_ne (by omega), pr_up_ne (by omega)]

def rq_cp_it265 (σ : pr_I) (τ : pr_I) (nr : Nat) : Nat → pr_I
  | 0 => (pr_row (pr_row (pr_row (pr_row (pr_row (pr_row (pr_row (pr_row (pr_row (pr_row (pr_row (pr_row (pr_row (pr_row (pr_row (pr_up σ 18 17 (nI nr)) 19 (cp_row (τ 19) (σ 19) nr)) 20 (cp_row (τ 20) (σ 20) nr)) 21 (cp_row (τ 21) (σ 21) nr)) 22 (cp_row (τ 22) (σ 22) nr)) 23 (cp_row (τ 23) (σ 23) nr)) 24 (cp_row (τ 24) (σ 24) nr)) 25 (cp_row (τ 25) (σ 25) nr)) 26 (cp_row (τ 26) (σ 26) nr)) 27 (cp_row (τ 27) (σ 27) nr)) 28 (cp_row (τ 28) (σ 28) nr)) 29 (cp_row (τ 29) (σ 29) nr)) 30 (cp_row (τ 30) (σ 30) nr)) 31 (cp_row (τ 31) (σ 31) nr)) 32 (cp_row (τ 32) (σ 32) nr)) 33 (cp_row (τ 33) (σ 33) nr))
  | k + 1 => (pr_row (pr_row (rq_cp_it265 σ τ nr k) (35 + k) (cp_row (τ (35 + k)) ((rq_cp_it265 σ τ nr k) (35 + k)) 11)) (76 + k) (cp_row (τ (76 + k)) ((rq_cp_it265 σ τ nr k) (76 + k)) 11))
theorem fr_rq_cp_it265 {σ : pr_I} {τ : pr_I} {nr : Nat} {o : Nat} (hms : ∀ m ∈ ([] : List Nat), o ≠ m) (hp : o < 35 ∨ 115 < o) : ∀ {k : Nat}, k ≤ 40 → (rq_cp_it265 σ τ nr k) o = (pr_row (pr_row (pr_row (pr_row (pr_row (pr_row (pr_row (pr_row (pr_row (pr_row (pr_row (pr_row (pr_row (pr_row (pr_row (pr_up σ 18 17 (nI nr)) 19 (cp_row (τ 19) (σ 19) nr)) 20 (cp_row (τ 20) (σ 20) nr)) 21 (cp_row (τ 21) (σ 21) nr)) 22 (cp_row (τ 22) (σ 22) nr)) 23 (cp_row (τ 23) (σ 23) nr)) 24 (cp_row (τ 24) (σ 24) nr)) 25 (cp_row (τ 25) (σ 25) nr)) 26 (cp_row (τ 26) (σ 26) nr)) 27 (cp_row (τ 27) (σ 27) nr)) 28 (cp_row (τ 28) (σ 28) nr)) 29 (cp_row (τ 29) (σ 29) nr)) 30 (cp_row (τ 30) (σ 30) nr)) 31 (cp_row (τ 31) (σ 31) nr)) 32 (cp_row (τ 32) (σ 32) nr)) 33 (cp_row (τ 33) (σ 33) nr)) o := by
  intro k
  induction k with
  | zero =>
    intro _
    show (pr_row (pr_row (pr_row (pr_row (pr_row (pr_row (pr_row (pr_row (pr_row (pr_row (pr_row (pr_row (pr_row (pr_row (pr_row (pr_up σ 18 17 (nI nr)) 19 (cp_row (τ 19) (σ 19) nr)) 20 (cp_row (τ 20) (σ 20) nr)) 21 (cp_row (τ 21) (σ 21) nr)) 22 (cp_row (τ 22) (σ 22) nr)) 23 (cp_row (τ 23) (σ 23) nr)) 24 (cp_row (τ 24) (σ 24) nr)) 25 (cp_row (τ 25) (σ 25) nr)) 26 (cp_row (τ 26) (σ 26) nr)) 27 (cp_row (τ 27) (σ 27) nr)) 28 (cp_row (τ 28) (σ 28) nr)) 29 (cp_row (τ 29) (σ 29) nr)) 30 (cp_row (τ 30) (σ 30) nr)) 31 (cp_row (τ 31) (σ 31) nr)) 32 (cp_row (τ 32) (σ 32) nr)) 33 (cp_row (τ 33) (σ 33) nr)) o = (pr_row (pr_row (pr_row (pr_row (pr_row (pr_row (pr_row (pr_row (pr_row (pr_row (pr_row (pr_row (pr_row (pr_row (pr_row (pr_up σ 18 17 (nI nr)) 19 (cp_row (τ 19) (σ 19) nr)) 20 (cp_row (τ 20) (σ 20) nr)) 21 (cp_row (τ 21) (σ 21) nr)) 22 (cp_row (τ 22) (σ 22) nr)) 23 (cp_row (τ 23) (σ 23) nr)) 24 (cp_row (τ 24) (σ 24) nr)) 25 (cp_row (τ 25) (σ 25) nr)) 26 (cp_row (τ 26) (σ 26) nr)) 27 (cp_row (τ 27) (σ 27) nr)) 28 (cp_row (τ 28) (σ 28) nr)) 29 (cp_row (τ 29) (σ 29) nr)) 30 (cp_row (τ 30) (σ 30) nr)) 31 (cp_row (τ 31) (σ 31) nr)) 32 (cp_row (τ 32) (σ 32) nr)) 33 (cp_row (τ 33) (σ 33) nr)) o
    rfl
  | succ k ih =>
    intro hk40
    have ih := ih (by omega)
    show (pr_row (pr_row (rq_cp_it265 σ τ nr k) (35 + k) (cp_row (τ (35 + k)) ((rq_cp_it265 σ τ nr k) (35 + k)) 11)) (76 + k) (cp_row (τ (76 + k)) ((rq_cp_it265 σ τ nr k) (76 + k)) 11)) o = (pr_row (pr_row (pr_row (pr_row (pr_row (pr_row (pr_row (pr_row (pr_row (pr_row (pr_row (pr_row (pr_row (pr_row (pr_row (pr_up σ 18 17 (nI nr)) 19 (cp_row (τ 19) (σ 19) nr)) 20 (cp_row (τ 20) (σ 20) nr)) 21 (cp_row (τ 21) (σ 21) nr)) 22 (cp_row (τ 22) (σ 22) nr)) 23 (cp_row (τ 23) (σ 23) nr)) 24 (cp_row (τ 24) (σ 24) nr)) 25 (cp_row (τ 25) (σ 25) nr)) 26 (cp_row (τ 26) (σ 26) nr)) 27 (cp_row (τ 27) (σ 27) nr)) 28 (cp_row (τ 28) (σ 28) nr)) 29 (cp_row (τ 29) (σ 29) nr)) 30 (cp_row (τ 30) (σ 30) nr)) 31 (cp_row (τ 31) (σ 31) nr)) 32 (cp_row (τ 32) (σ 32) nr)) 33 (cp_row (τ 33) (σ 33) nr)) o
    rw [pr_row_ne (by omega), pr_row_ne (by omega), ih]

def rq_cp (σ : pr_I) (τ : pr_I) (nr : Nat) : pr_I := (rq_cp_it265 σ τ nr nr)
set_option maxRecDepth 100000 in
set_option maxHeartbeats 4000000 in
theorem c_rq_cp {g : pr_C} {l : Launch} (hl : l.stackTraces = false) {T : pr_T} {I : pr_I} {L : pr_L} {w : Nat} {σ : pr_I} {τ : pr_I} {nr : Nat} (hw : pr_W T w) {v : Nat} (hv : pr_W T v) (hdis : v + 121 ≤ w ∨ w + 121 ≤ v) (hτ : τ 18 17 = nI nr) (hb : nr ≤ 40) : pr_M g l 2 0 0 mX4_copyFrom [.ref (w + 18), .ref (v + 18)] T (ws_put (ws_put I v τ) w σ) L (pr_R none T (ws_put (ws_put I v τ) w (rq_cp σ τ nr)) L) pr_no := by
  refine pr_ofG (by decide) rfl hl (Nat.le_of_ble_eq_true rfl) (fun X hA hX hXn hXt => ?_)
  subst hX
  show pr_G g X mX4_copyFrom.2.2.1 _ 0 0 0 [.ref (w + 18), .ref (v + 18), .null] [] T (ws_put (ws_put I v τ) w σ) L
  refine pr_aload_n hA dX4_copyFrom_0 rfl ?_
  refine pr_aload_n hA dX4_copyFrom_1 rfl ?_
  refine pr_getE (v := (nI nr)) hA f_X4_65 rfl (wk_18 hv) ((ws_outv (by omega)).trans ((ws_val (by decide)).trans hτ)) dX4_copyFrom_2 ?_
  refine pr_putE (I' := (ws_put (ws_put I v τ) w (pr_up σ 18 17 (nI nr)))) hA f_X4_65 rfl (wk_18 hw) (ws_up (by decide)) dX4_copyFrom_5 ?_
  refine pr_aload_n hA dX4_copyFrom_8 rfl ?_
  refine pr_getR hA f_X4_9 rfl (wk_18 hv) (wf_18_0 hv) dX4_copyFrom_9 ?_
  refine pr_iconst hA (nI 0) dX4_copyFrom_12 (by decide) ?_
  refine pr_aload_n hA dX4_copyFrom_13 rfl ?_
  refine pr_getR hA f_X4_9 rfl (wk_18 hw) (wf_18_0 hw) dX4_copyFrom_14 ?_
  refine pr_iconst hA (nI 0) dX4_copyFrom_17 (by decide) ?_
  refine pr_aload_n hA dX4_copyFrom_18 rfl ?_
  refine pr_getE (v := (nI nr)) hA f_X4_65 rfl (wk_18 hw) ((ws_val (by decide)).trans pr_upe) dX4_copyFrom_19 ?_
  refine pr_cpyE (I' := (ws_put (ws_put I v τ) w (pr_row (pr_up σ 18 17 (nI nr)) 19 (cp_row (τ 19) (σ 19) nr)))) hA ⟨kM_X4_69, kN_System_arraycopy__Ljava_lang_Object_ILjava_lang_Object_II_V, kT_System_arraycopy__Ljava_lang_Object_ILjava_lang_Object_II_V, kZ_J10⟩ (by decide) (wk_19 hv) (wk_19 hw) (by omega) (by omega) (by omega) ((ws_out (by omega)).trans (ws_row (by decide))) ((ws_row (by decide)).trans (pr_up_ne (by decide))) (ws_put_row (by decide)) (Nat.le_of_ble_eq_true rfl) dX4_copyFrom_22 ?_
  refine pr_aload_n hA dX4_copyFrom_25 rfl ?_
  refine pr_getR hA f_X4_15 rfl (wk_18 hv) (wf_18_1 hv) dX4_copyFrom_26 ?_
  refine pr_iconst hA (nI 0) dX4_copyFrom_29 (by decide) ?_
  refine pr_aload_n hA dX4_copyFrom_30 rfl ?_
  refine pr_getR hA f_X4_15 rfl (wk_18 hw) (wf_18_1 hw) dX4_copyFrom_31 ?_
  refine pr_iconst hA (nI 0) dX4_copyFrom_34 (by decide) ?_
  refine pr_aload_n hA dX4_copyFrom_35 rfl ?_
  refine pr_getE (v := (nI nr)) hA f_X4_65 rfl (wk_18 hw) ((ws_val (by decide)).trans ((pr_rwv (by decide)).trans pr_upe)) dX4_copyFrom_36 ?_
  refine pr_cpyE (I' := (ws_put (ws_put I v τ) w (pr_row (pr_row (pr_up σ 18 17 (nI nr)) 19 (cp_row (τ 19) (σ 19) nr)) 20 (cp_row (τ 20) (σ 20) nr)))) hA ⟨kM_X4_69, kN_System_arraycopy__Ljava_lang_Object_ILjava_lang_Object_II_V, kT_System_arraycopy__Ljava_lang_Object_ILjava_lang_Object_II_V, kZ_J10⟩ (by decide) (wk_20 hv) (wk_20 hw) (by omega) (by omega) (by omega) ((ws_out (by omega)).trans (ws_row (by decide))) ((ws_row (by decide)).trans ((pr_row_ne (by decide)).trans (pr_up_ne (by decide)))) (ws_put_row (by decide)) (Nat.le_of_ble_eq_true rfl) dX4_copyFrom_39 ?_
  refine pr_aload_n hA dX4_copyFrom_42 rfl ?_
  refine pr_getR hA f_X4_18 rfl (wk_18 hv) (wf_18_2 hv) dX4_copyFrom_43 ?_
  refine pr_iconst hA (nI 0) dX4_copyFrom_46 (by decide) ?_
  refine pr_aload_n hA dX4_copyFrom_47 rfl ?_
  refine pr_getR hA f_X4_18 rfl (wk_18 hw) (wf_18_2 hw) dX4_copyFrom_48 ?_
  refine pr_iconst hA (nI 0) dX4_copyFrom_51 (by decide) ?_
  refine pr_aload_n hA dX4_copyFrom_52 rfl ?_
  refine pr_getE (v := (nI nr)) hA f_X4_65 rfl (wk_18 hw) ((ws_val (by decide)).trans ((pr_rwv (by decide)).trans ((pr_rwv (by decide)).trans pr_upe))) dX4_copyFrom_53 ?_
  refine pr_cpyE (I' := (ws_put (ws_put I v τ) w (pr_row (pr_row (pr_row (pr_up σ 18 17 (nI nr)) 19 (cp_row (τ 19) (σ 19) nr)) 20 (cp_row (τ 20) (σ 20) nr)) 21 (cp_row (τ 21) (σ 21) nr)))) hA ⟨kM_X4_69, kN_System_arraycopy__Ljava_lang_Object_ILjava_lang_Object_II_V, kT_System_arraycopy__Ljava_lang_Object_ILjava_lang_Object_II_V, kZ_J10⟩ (by decide) (wk_21 hv) (wk_21 hw) (by omega) (by omega) (by omega) ((ws_out (by omega)).trans (ws_row (by decide))) ((ws_row (by decide)).trans ((pr_row_ne (by decide)).trans ((pr_row_ne (by decide)).trans (pr_up_ne (by decide))))) (ws_put_row (by decide)) (Nat.le_of_ble_eq_true rfl) dX4_copyFrom_56 ?_
  refine pr_aload_n hA dX4_copyFrom_59 rfl ?_
  refine pr_getR hA f_X4_21 rfl (wk_18 hv) (wf_18_3 hv) dX4_copyFrom_60 ?_
  refine pr_iconst hA (nI 0) dX4_copyFrom_63 (by decide) ?_
  refine pr_aload_n hA dX4_copyFrom_64 rfl ?_
  refine pr_getR hA f_X4_21 rfl (wk_18 hw) (wf_18_3 hw) dX4_copyFrom_65 ?_
  refine pr_iconst hA (nI 0) dX4_copyFrom_68 (by decide) ?_
  refine pr_aload_n hA dX4_copyFrom_69 rfl ?_
  refine pr_getE (v := (nI nr)) hA f_X4_65 rfl (wk_18 hw) ((ws_val (by decide)).trans ((pr_rwv (by decide)).trans ((pr_rwv (by decide)).trans ((pr_rwv (by decide)).trans pr_upe)))) dX4_copyFrom_70 ?_
  refine pr_cpyE (I' := (ws_put (ws_put I v τ) w (pr_row (pr_row (pr_row (pr_row (pr_up σ 18 17 (nI nr)) 19 (cp_row (τ 19) (σ 19) nr)) 20 (cp_row (τ 20) (σ 20) nr)) 21 (cp_row (τ 21) (σ 21) nr)) 22 (cp_row (τ 22) (σ 22) nr)))) hA ⟨kM_X4_69, kN_System_arraycopy__Ljava_lang_Object_ILjava_lang_Object_II_V, kT_System_arraycopy__Ljava_lang_Object_ILjava_lang_Object_II_V, kZ_J10⟩ (by decide) (wk_22 hv) (wk_22 hw) (by omega) (by omega) (by omega) ((ws_out (by omega)).trans (ws_row (by decide))) ((ws_row (by decide)).trans ((pr_row_ne (by decide)).trans ((pr_row_ne (by decide)).trans ((pr_row_ne (by decide)).trans (pr_up_ne (by decide)))))) (ws_put_row (by decide)) (Nat.le_of_ble_eq_true rfl) dX4_copyFrom_73 ?_
  refine pr_aload_n hA dX4_copyFrom_76 rfl ?_
  refine pr_getR hA f_X4_24 rfl (wk_18 hv) (wf_18_4 hv) dX4_copyFrom_77 ?_
  refine pr_iconst hA (nI 0) dX4_copyFrom_80 (by decide) ?_
  refine pr_aload_n hA dX4_copyFrom_81 rfl ?_
  refine pr_getR hA f_X4_24 rfl (wk_18 hw) (wf_18_4 hw) dX4_copyFrom_82 ?_
  refine pr_iconst hA (nI 0) dX4_copyFrom_85 (by decide) ?_
  refine pr_aload_n hA dX4_copyFrom_86 rfl ?_
  refine pr_getE (v := (nI nr)) hA f_X4_65 rfl (wk_18 hw) ((ws_val (by decide)).trans ((pr_rwv (by decide)).trans ((pr_rwv (by decide)).trans ((pr_rwv (by decide)).trans ((pr_rwv (by decide)).trans pr_upe))))) dX4_copyFrom_87 ?_
  refine pr_cpyE (I' := (ws_put (ws_put I v τ) w (pr_row (pr_row (pr_row (pr_row (pr_row (pr_up σ 18 17 (nI nr)) 19 (cp_row (τ 19) (σ 19) nr)) 20 (cp_row (τ 20) (σ 20) nr)) 21 (cp_row (τ 21) (σ 21) nr)) 22 (cp_row (τ 22) (σ 22) nr)) 23 (cp_row (τ 23) (σ 23) nr)))) hA ⟨kM_X4_69, kN_System_arraycopy__Ljava_lang_Object_ILjava_lang_Object_II_V, kT_System_arraycopy__Ljava_lang_Object_ILjava_lang_Object_II_V, kZ_J10⟩ (by decide) (wk_23 hv) (wk_23 hw) (by omega) (by omega) (by omega) ((ws_out (by omega)).trans (ws_row (by decide))) ((ws_row (by decide)).trans ((pr_row_ne (by decide)).trans ((pr_row_ne (by decide)).trans ((pr_row_ne (by decide)).trans ((pr_row_ne (by decide)).trans (pr_up_ne (by decide))))))) (ws_put_row (by decide)) (Nat.le_of_ble_eq_true rfl) dX4_copyFrom_90 ?_
  refine pr_aload_n hA dX4_copyFrom_93 rfl ?_
  refine pr_getR hA f_X4_27 rfl (wk_18 hv) (wf_18_5 hv) dX4_copyFrom_94 ?_
  refine pr_iconst hA (nI 0) dX4_copyFrom_97 (by decide) ?_
  refine pr_aload_n hA dX4_copyFrom_98 rfl ?_
  refine pr_getR hA f_X4_27 rfl (wk_18 hw) (wf_18_5 hw) dX4_copyFrom_99 ?_
  refine pr_iconst hA (nI 0) dX4_copyFrom_102 (by decide) ?_
  refine pr_aload_n hA dX4_copyFrom_103 rfl ?_
  refine pr_getE (v := (nI nr)) hA f_X4_65 rfl (wk_18 hw) ((ws_val (by decide)).trans ((pr_rwv (by decide)).trans ((pr_rwv (by decide)).trans ((pr_rwv (by decide)).trans ((pr_rwv (by decide)).trans ((pr_rwv (by decide)).trans pr_upe)))))) dX4_copyFrom_104 ?_
  refine pr_cpyE (I' := (ws_put (ws_put I v τ) w (pr_row (pr_row (pr_row (pr_row (pr_row (pr_row (pr_up σ 18 17 (nI nr)) 19 (cp_row (τ 19) (σ 19) nr)) 20 (cp_row (τ 20) (σ 20) nr)) 21 (cp_row (τ 21) (σ 21) nr)) 22 (cp_row (τ 22) (σ 22) nr)) 23 (cp_row (τ 23) (σ 23) nr)) 24 (cp_row (τ 24) (σ 24) nr)))) hA ⟨kM_X4_69, kN_System_arraycopy__Ljava_lang_Object_ILjava_lang_Object_II_V, kT_System_arraycopy__Ljava_lang_Object_ILjava_lang_Object_II_V, kZ_J10⟩ (by decide) (wk_24 hv) (wk_24 hw) (by omega) (by omega) (by omega) ((ws_out (by omega)).trans (ws_row (by decide))) ((ws_row (by decide)).trans ((pr_row_ne (by decide)).trans ((pr_row_ne (by decide)).trans ((pr_row_ne (by decide)).trans ((pr_row_ne (by decide)).trans ((pr_row_ne (by decide)).trans (pr_up_ne (by decide)))))))) (ws_put_row (by decide)) (Nat.le_of_ble_eq_true rfl) dX4_copyFrom_107 ?_
  refine pr_aload_n hA dX4_copyFrom_110 rfl ?_
  refine pr_getR hA f_X4_30 rfl (wk_18 hv) (wf_18_6 hv) dX4_copyFrom_111 ?_
  refine pr_iconst hA (nI 0) dX4_copyFrom_114 (by decide) ?_
  refine pr_aload_n hA dX4_copyFrom_115 rfl ?_
  refine pr_getR hA f_X4_30 rfl (wk_18 hw) (wf_18_6 hw) dX4_copyFrom_116 ?_
  refine pr_iconst hA (nI 0) dX4_copyFrom_119 (by decide) ?_
  refine pr_aload_n hA dX4_copyFrom_120 rfl ?_
  refine pr_getE (v := (nI nr)) hA f_X4_65 rfl (wk_18 hw) ((ws_val (by decide)).trans ((pr_rwv (by decide)).trans ((pr_rwv (by decide)).trans ((pr_rwv (by decide)).trans ((pr_rwv (by decide)).trans ((pr_rwv (by decide)).trans ((pr_rwv (by decide)).trans pr_upe))))))) dX4_copyFrom_121 ?_
  refine pr_cpyE (I' := (ws_put (ws_put I v τ) w (pr_row (pr_row (pr_row (pr_row (pr_row (pr_row (pr_row (pr_up σ 18 17 (nI nr)) 19 (cp_row (τ 19) (σ 19) nr)) 20 (cp_row (τ 20) (σ 20) nr)) 21 (cp_row (τ 21) (σ 21) nr)) 22 (cp_row (τ 22) (σ 22) nr)) 23 (cp_row (τ 23) (σ 23) nr)) 24 (cp_row (τ 24) (σ 24) nr)) 25 (cp_row (τ 25) (σ 25) nr)))) hA ⟨kM_X4_69, kN_System_arraycopy__Ljava_lang_Object_ILjava_lang_Object_II_V, kT_System_arraycopy__Ljava_lang_Object_ILjava_lang_Object_II_V, kZ_J10⟩ (by decide) (wk_25 hv) (wk_25 hw) (by omega) (by omega) (by omega) ((ws_out (by omega)).trans (ws_row (by decide))) ((ws_row (by decide)).trans ((pr_row_ne (by decide)).trans ((pr_row_ne (by decide)).trans ((pr_row_ne (by decide)).trans ((pr_row_ne (by decide)).trans ((pr_row_ne (by decide)).trans ((pr_row_ne (by decide)).trans (pr_up_ne (by decide))))))))) (ws_put_row (by decide)) (Nat.le_of_ble_eq_true rfl) dX4_copyFrom_124 ?_
  refine pr_aload_n hA dX4_copyFrom_127 rfl ?_
  refine pr_getR hA f_X4_33 rfl (wk_18 hv) (wf_18_7 hv) dX4_copyFrom_128 ?_
  refine pr_iconst hA (nI 0) dX4_copyFrom_131 (by decide) ?_
  refine pr_aload_n hA dX4_copyFrom_132 rfl ?_
  refine pr_getR hA f_X4_33 rfl (wk_18 hw) (wf_18_7 hw) dX4_copyFrom_133 ?_
  refine pr_iconst hA (nI 0) dX4_copyFrom_136 (by decide) ?_
  refine pr_aload_n hA dX4_copyFrom_137 rfl ?_
  refine pr_getE (v := (nI nr)) hA f_X4_65 rfl (wk_18 hw) ((ws_val (by decide)).trans ((pr_rwv (by decide)).trans ((pr_rwv (by decide)).trans ((pr_rwv (by decide)).trans ((pr_rwv (by decide)).trans ((pr_rwv (by decide)).trans ((pr_rwv (by decide)).trans ((pr_rwv (by decide)).trans pr_upe)))))))) dX4_copyFrom_138 ?_
  refine pr_cpyE (I' := (ws_put (ws_put I v τ) w (pr_row (pr_row (pr_row (pr_row (pr_row (pr_row (pr_row (pr_row (pr_up σ 18 17 (nI nr)) 19 (cp_row (τ 19) (σ 19) nr)) 20 (cp_row (τ 20) (σ 20) nr)) 21 (cp_row (τ 21) (σ 21) nr)) 22 (cp_row (τ 22) (σ 22) nr)) 23 (cp_row (τ 23) (σ 23) nr)) 24 (cp_row (τ 24) (σ 24) nr)) 25 (cp_row (τ 25) (σ 25) nr)) 26 (cp_row (τ 26) (σ 26) nr)))) hA ⟨kM_X4_69, kN_System_arraycopy__Ljava_lang_Object_ILjava_lang_Object_II_V, kT_System_arraycopy__Ljava_lang_Object_ILjava_lang_Object_II_V, kZ_J10⟩ (by decide) (wk_26 hv) (wk_26 hw) (by omega) (by omega) (by omega) ((ws_out (by omega)).trans (ws_row (by decide))) ((ws_row (by decide)).trans ((pr_row_ne (by decide)).trans ((pr_row_ne (by decide)).trans ((pr_row_ne (by decide)).trans ((pr_row_ne (by decide)).trans ((pr_row_ne (by decide)).trans ((pr_row_ne (by decide)).trans ((pr_row_ne (by decide)).trans (pr_up_ne (by decide)))))))))) (ws_put_row (by decide)) (Nat.le_of_ble_eq_true rfl) dX4_copyFrom_141 ?_
  refine pr_aload_n hA dX4_copyFrom_144 rfl ?_
  refine pr_getR hA f_X4_36 rfl (wk_18 hv) (wf_18_8 hv) dX4_copyFrom_145 ?_
  refine pr_iconst hA (nI 0) dX4_copyFrom_148 (by decide) ?_
  refine pr_aload_n hA dX4_copyFrom_149 rfl ?_
  refine pr_getR hA f_X4_36 rfl (wk_18 hw) (wf_18_8 hw) dX4_copyFrom_150 ?_
  refine pr_iconst hA (nI 0) dX4_copyFrom_153 (by decide) ?_
  refine pr_aload_n hA dX4_copyFrom_154 rfl ?_
  refine pr_getE (v := (nI nr)) hA f_X4_65 rfl (wk_18 hw) ((ws_val (by decide)).trans ((pr_rwv (by decide)).trans ((pr_rwv (by decide)).trans ((pr_rwv (by decide)).trans ((pr_rwv (by decide)).trans ((pr_rwv (by decide)).trans ((pr_rwv (by decide)).trans ((pr_rwv (by decide)).trans ((pr_rwv (by decide)).trans pr_upe))))))))) dX4_copyFrom_155 ?_
  refine pr_cpyE (I' := (ws_put (ws_put I v τ) w (pr_row (pr_row (pr_row (pr_row (pr_row (pr_row (pr_row (pr_row (pr_row (pr_up σ 18 17 (nI nr)) 19 (cp_row (τ 19) (σ 19) nr)) 20 (cp_row (τ 20) (σ 20) nr)) 21 (cp_row (τ 21) (σ 21) nr)) 22 (cp_row (τ 22) (σ 22) nr)) 23 (cp_row (τ 23) (σ 23) nr)) 24 (cp_row (τ 24) (σ 24) nr)) 25 (cp_row (τ 25) (σ 25) nr)) 26 (cp_row (τ 26) (σ 26) nr)) 27 (cp_row (τ 27) (σ 27) nr)))) hA ⟨kM_X4_69, kN_System_arraycopy__Ljava_lang_Object_ILjava_lang_Object_II_V, kT_System_arraycopy__Ljava_lang_Object_ILjava_lang_Object_II_V, kZ_J10⟩ (by decide) (wk_27 hv) (wk_27 hw) (by omega) (by omega) (by omega) ((ws_out (by omega)).trans (ws_row (by decide))) ((ws_row (by decide)).trans ((pr_row_ne (by decide)).trans ((pr_row_ne (by decide)).trans ((pr_row_ne (by decide)).trans ((pr_row_ne (by decide)).trans ((pr_row_ne (by decide)).trans ((pr_row_ne (by decide)).trans ((pr_row_ne (by decide)).trans ((pr_row_ne (by decide)).trans (pr_up_ne (by decide))))))))))) (ws_put_row (by decide)) (Nat.le_of_ble_eq_true rfl) dX4_copyFrom_158 ?_
  refine pr_aload_n hA dX4_copyFrom_161 rfl ?_
  refine pr_getR hA f_X4_39 rfl (wk_18 hv) (wf_18_9 hv) dX4_copyFrom_162 ?_
  refine pr_iconst hA (nI 0) dX4_copyFrom_165 (by decide) ?_
  refine pr_aload_n hA dX4_copyFrom_166 rfl ?_
  refine pr_getR hA f_X4_39 rfl (wk_18 hw) (wf_18_9 hw) dX4_copyFrom_167 ?_
  refine pr_iconst hA (nI 0) dX4_copyFrom_170 (by decide) ?_
  refine pr_aload_n hA dX4_copyFrom_171 rfl ?_
  refine pr_getE (v := (nI nr)) hA f_X4_65 rfl (wk_18 hw) ((ws_val (by decide)).trans ((pr_rwv (by decide)).trans ((pr_rwv (by decide)).trans ((pr_rwv (by decide)).trans ((pr_rwv (by decide)).trans ((pr_rwv (by decide)).trans ((pr_rwv (by decide)).trans ((pr_rwv (by decide)).trans ((pr_rwv (by decide)).trans ((pr_rwv (by decide)).trans pr_upe)))))))))) dX4_copyFrom_172 ?_
  refine pr_cpyE (I' := (ws_put (ws_put I v τ) w (pr_row (pr_row (pr_row (pr_row (pr_row (pr_row (pr_row (pr_row (pr_row (pr_row (pr_up σ 18 17 (nI nr)) 19 (cp_row (τ 19) (σ 19) nr)) 20 (cp_row (τ 20) (σ 20) nr)) 21 (cp_row (τ 21) (σ 21) nr)) 22 (cp_row (τ 22) (σ 22) nr)) 23 (cp_row (τ 23) (σ 23) nr)) 24 (cp_row (τ 24) (σ 24) nr)) 25 (cp_row (τ 25) (σ 25) nr)) 26 (cp_row (τ 26) (σ 26) nr)) 27 (cp_row (τ 27) (σ 27) nr)) 28 (cp_row (τ 28) (σ 28) nr)))) hA ⟨kM_X4_69, kN_System_arraycopy__Ljava_lang_Object_ILjava_lang_Object_II_V, kT_System_arraycopy__Ljava_lang_Object_ILjava_lang_Object_II_V, kZ_J10⟩ (by decide) (wk_28 hv) (wk_28 hw) (by omega) (by omega) (by omega) ((ws_out (by omega)).trans (ws_row (by decide))) ((ws_row (by decide)).trans ((pr_row_ne (by decide)).trans ((pr_row_ne (by decide)).trans ((pr_row_ne (by decide)).trans ((pr_row_ne (by decide)).trans ((pr_row_ne (by decide)).trans ((pr_row_ne (by decide)).trans ((pr_row_ne (by decide)).trans ((pr_row_ne (by decide)).trans ((pr_row_ne (by decide)).trans (pr_up_ne (by decide)))))))))))) (ws_put_row (by decide)) (Nat.le_of_ble_eq_true rfl) dX4_copyFrom_175 ?_
  refine pr_aload_n hA dX4_copyFrom_178 rfl ?_
  refine pr_getR hA f_X4_42 rfl (wk_18 hv) (wf_18_10 hv) dX4_copyFrom_179 ?_
  refine pr_iconst hA (nI 0) dX4_copyFrom_182 (by decide) ?_
  refine pr_aload_n hA dX4_copyFrom_183 rfl ?_
  refine pr_getR hA f_X4_42 rfl (wk_18 hw) (wf_18_10 hw) dX4_copyFrom_184 ?_
  refine pr_iconst hA (nI 0) dX4_copyFrom_187 (by decide) ?_
  refine pr_aload_n hA dX4_copyFrom_188 rfl ?_
  refine pr_getE (v := (nI nr)) hA f_X4_65 rfl (wk_18 hw) ((ws_val (by decide)).trans ((pr_rwv (by decide)).trans ((pr_rwv (by decide)).trans ((pr_rwv (by decide)).trans ((pr_rwv (by decide)).trans ((pr_rwv (by decide)).trans ((pr_rwv (by decide)).trans ((pr_rwv (by decide)).trans ((pr_rwv (by decide)).trans ((pr_rwv (by decide)).trans ((pr_rwv (by decide)).trans pr_upe))))))))))) dX4_copyFrom_189 ?_
  refine pr_cpyE (I' := (ws_put (ws_put I v τ) w (pr_row (pr_row (pr_row (pr_row (pr_row (pr_row (pr_row (pr_row (pr_row (pr_row (pr_row (pr_up σ 18 17 (nI nr)) 19 (cp_row (τ 19) (σ 19) nr)) 20 (cp_row (τ 20) (σ 20) nr)) 21 (cp_row (τ 21) (σ 21) nr)) 22 (cp_row (τ 22) (σ 22) nr)) 23 (cp_row (τ 23) (σ 23) nr)) 24 (cp_row (τ 24) (σ 24) nr)) 25 (cp_row (τ 25) (σ 25) nr)) 26 (cp_row (τ 26) (σ 26) nr)) 27 (cp_row (τ 27) (σ 27) nr)) 28 (cp_row (τ 28) (σ 28) nr)) 29 (cp_row (τ 29) (σ 29) nr)))) hA ⟨kM_X4_69, kN_System_arraycopy__Ljava_lang_Object_ILjava_lang_Object_II_V, kT_System_arraycopy__Ljava_lang_Object_ILjava_lang_Object_II_V, kZ_J10⟩ (by decide) (wk_29 hv) (wk_29 hw) (by omega) (by omega) (by omega) ((ws_out (by omega)).trans (ws_row (by decide))) ((ws_row (by decide)).trans ((pr_row_ne (by decide)).trans ((pr_row_ne (by decide)).trans ((pr_row_ne (by decide)).trans ((pr_row_ne (by decide)).trans ((pr_row_ne (by decide)).trans ((pr_row_ne (by decide)).trans ((pr_row_ne (by decide)).trans ((pr_row_ne (by decide)).trans ((pr_row_ne (by decide)).trans ((pr_row_ne (by decide)).trans (pr_up_ne (by decide))))))))))))) (ws_put_row (by decide)) (Nat.le_of_ble_eq_true rfl) dX4_copyFrom_192 ?_
  refine pr_aload_n hA dX4_copyFrom_195 rfl ?_
  refine pr_getR hA f_X4_45 rfl (wk_18 hv) (wf_18_11 hv) dX4_copyFrom_196 ?_
  refine pr_iconst hA (nI 0) dX4_copyFrom_199 (by decide) ?_
  refine pr_aload_n hA dX4_copyFrom_200 rfl ?_
  refine pr_getR hA f_X4_45 rfl (wk_18 hw) (wf_18_11 hw) dX4_copyFrom_201 ?_
  refine pr_iconst hA (nI 0) dX4_copyFrom_204 (by decide) ?_
  refine pr_aload_n hA dX4_copyFrom_205 rfl ?_
  refine pr_getE (v := (nI nr)) hA f_X4_65 rfl (wk_18 hw) ((ws_val (by decide)).trans ((pr_rwv (by decide)).trans ((pr_rwv (by decide)).trans ((pr_rwv (by decide)).trans ((pr_rwv (by decide)).trans ((pr_rwv (by decide)).trans ((pr_rwv (by decide)).trans ((pr_rwv (by decide)).trans ((pr_rwv (by decide)).trans ((pr_rwv (by decide)).trans ((pr_rwv (by decide)).trans ((pr_rwv (by decide)).trans pr_upe)))))))))))) dX4_copyFrom_206 ?_
  refine pr_cpyE (I' := (ws_put (ws_put I v τ) w (pr_row (pr_row (pr_row (pr_row (pr_row (pr_row (pr_row (pr_row (pr_row (pr_row (pr_row (pr_row (pr_up σ 18 17 (nI nr)) 19 (cp_row (τ 19) (σ 19) nr)) 20 (cp_row (τ 20) (σ 20) nr)) 21 (cp_row (τ 21) (σ 21) nr)) 22 (cp_row (τ 22) (σ 22) nr)) 23 (cp_row (τ 23) (σ 23) nr)) 24 (cp_row (τ 24) (σ 24) nr)) 25 (cp_row (τ 25) (σ 25) nr)) 26 (cp_row (τ 26) (σ 26) nr)) 27 (cp_row (τ 27) (σ 27) nr)) 28 (cp_row (τ 28) (σ 28) nr)) 29 (cp_row (τ 29) (σ 29) nr)) 30 (cp_row (τ 30) (σ 30) nr)))) hA ⟨kM_X4_69, kN_System_arraycopy__Ljava_lang_Object_ILjava_lang_Object_II_V, kT_System_arraycopy__Ljava_lang_Object_ILjava_lang_Object_II_V, kZ_J10⟩ (by decide) (wk_30 hv) (wk_30 hw) (by omega) (by omega) (by omega) ((ws_out (by omega)).trans (ws_row (by decide))) ((ws_row (by decide)).trans ((pr_row_ne (by decide)).trans ((pr_row_ne (by decide)).trans ((pr_row_ne (by decide)).trans ((pr_row_ne (by decide)).trans ((pr_row_ne (by decide)).trans ((pr_row_ne (by decide)).trans ((pr_row_ne (by decide)).trans ((pr_row_ne (by decide)).trans ((pr_row_ne (by decide)).trans ((pr_row_ne (by decide)).trans ((pr_row_ne (by decide)).trans (pr_up_ne (by decide)))))))))))))) (ws_put_row (by decide)) (Nat.le_of_ble_eq_true rfl) dX4_copyFrom_209 ?_
  refine pr_aload_n hA dX4_copyFrom_212 rfl ?_
  refine pr_getR hA f_X4_48 rfl (wk_18 hv) (wf_18_12 hv) dX4_copyFrom_213 ?_
  refine pr_iconst hA (nI 0) dX4_copyFrom_216 (by decide) ?_
  refine pr_aload_n hA dX4_copyFrom_217 rfl ?_
  refine pr_getR hA f_X4_48 rfl (wk_18 hw) (wf_18_12 hw) dX4_copyFrom_218 ?_
  refine pr_iconst hA (nI 0) dX4_copyFrom_221 (by decide) ?_
  refine pr_aload_n hA dX4_copyFrom_222 rfl ?_
  refine pr_getE (v := (nI nr)) hA f_X4_65 rfl (wk_18 hw) ((ws_val (by decide)).trans ((pr_rwv (by decide)).trans ((pr_rwv (by decide)).trans ((pr_rwv (by decide)).trans ((pr_rwv (by decide)).trans ((pr_rwv (by decide)).trans ((pr_rwv (by decide)).trans ((pr_rwv (by decide)).trans ((pr_rwv (by decide)).trans ((pr_rwv (by decide)).trans ((pr_rwv (by decide)).trans ((pr_rwv (by decide)).trans ((pr_rwv (by decide)).trans pr_upe))))))))))))) dX4_copyFrom_223 ?_
  refine pr_cpyE (I' := (ws_put (ws_put I v τ) w (pr_row (pr_row (pr_row (pr_row (pr_row (pr_row (pr_row (pr_row (pr_row (pr_row (pr_row (pr_row (pr_row (pr_up σ 18 17 (nI nr)) 19 (cp_row (τ 19) (σ 19) nr)) 20 (cp_row (τ 20) (σ 20) nr)) 21 (cp_row (τ 21) (σ 21) nr)) 22 (cp_row (τ 22) (σ 22) nr)) 23 (cp_row (τ 23) (σ 23) nr)) 24 (cp_row (τ 24) (σ 24) nr)) 25 (cp_row (τ 25) (σ 25) nr)) 26 (cp_row (τ 26) (σ 26) nr)) 27 (cp_row (τ 27) (σ 27) nr)) 28 (cp_row (τ 28) (σ 28) nr)) 29 (cp_row (τ 29) (σ 29) nr)) 30 (cp_row (τ 30) (σ 30) nr)) 31 (cp_row (τ 31) (σ 31) nr)))) hA ⟨kM_X4_69, kN_System_arraycopy__Ljava_lang_Object_ILjava_lang_Object_II_V, kT_System_arraycopy__Ljava_lang_Object_ILjava_lang_Object_II_V, kZ_J10⟩ (by decide) (wk_31 hv) (wk_31 hw) (by omega) (by omega) (by omega) ((ws_out (by omega)).trans (ws_row (by decide))) ((ws_row (by decide)).trans ((pr_row_ne (by decide)).trans ((pr_row_ne (by decide)).trans ((pr_row_ne (by decide)).trans ((pr_row_ne (by decide)).trans ((pr_row_ne (by decide)).trans ((pr_row_ne (by decide)).trans ((pr_row_ne (by decide)).trans ((pr_row_ne (by decide)).trans ((pr_row_ne (by decide)).trans ((pr_row_ne (by decide)).trans ((pr_row_ne (by decide)).trans ((pr_row_ne (by decide)).trans (pr_up_ne (by decide))))))))))))))) (ws_put_row (by decide)) (Nat.le_of_ble_eq_true rfl) dX4_copyFrom_226 ?_
  refine pr_aload_n hA dX4_copyFrom_229 rfl ?_
  refine pr_getR hA f_X4_51 rfl (wk_18 hv) (wf_18_13 hv) dX4_copyFrom_230 ?_
  refine pr_iconst hA (nI 0) dX4_copyFrom_233 (by decide) ?_
  refine pr_aload_n hA dX4_copyFrom_234 rfl ?_
  refine pr_getR hA f_X4_51 rfl (wk_18 hw) (wf_18_13 hw) dX4_copyFrom_235 ?_
  refine pr_iconst hA (nI 0) dX4_copyFrom_238 (by decide) ?_
  refine pr_aload_n hA dX4_copyFrom_239 rfl ?_
  refine pr_getE (v := (nI nr)) hA f_X4_65 rfl (wk_18 hw) ((ws_val (by decide)).trans ((pr_rwv (by decide)).trans ((pr_rwv (by decide)).trans ((pr_rwv (by decide)).trans ((pr_rwv (by decide)).trans ((pr_rwv (by decide)).trans ((pr_rwv (by decide)).trans ((pr_rwv (by decide)).trans ((pr_rwv (by decide)).trans ((pr_rwv (by decide)).trans ((pr_rwv (by decide)).trans ((pr_rwv (by decide)).trans ((pr_rwv (by decide)).trans ((pr_rwv (by decide)).trans pr_upe)))))))))))))) dX4_copyFrom_240 ?_
  refine pr_cpyE (I' := (ws_put (ws_put I v τ) w (pr_row (pr_row (pr_row (pr_row (pr_row (pr_row (pr_row (pr_row (pr_row (pr_row (pr_row (pr_row (pr_row (pr_row (pr_up σ 18 17 (nI nr)) 19 (cp_row (τ 19) (σ 19) nr)) 20 (cp_row (τ 20) (σ 20) nr)) 21 (cp_row (τ 21) (σ 21) nr)) 22 (cp_row (τ 22) (σ 22) nr)) 23 (cp_row (τ 23) (σ 23) nr)) 24 (cp_row (τ 24) (σ 24) nr)) 25 (cp_row (τ 25) (σ 25) nr)) 26 (cp_row (τ 26) (σ 26) nr)) 27 (cp_row (τ 27) (σ 27) nr)) 28 (cp_row (τ 28) (σ 28) nr)) 29 (cp_row (τ 29) (σ 29) nr)) 30 (cp_row (τ 30) (σ 30) nr)) 31 (cp_row (τ 31) (σ 31) nr)) 32 (cp_row (τ 32) (σ 32) nr)))) hA ⟨kM_X4_69, kN_System_arraycopy__Ljava_lang_Object_ILjava_lang_Object_II_V, kT_System_arraycopy__Ljava_lang_Object_ILjava_lang_Object_II_V, kZ_J10⟩ (by decide) (wk_32 hv) (wk_32 hw) (by omega) (by omega) (by omega) ((ws_out (by omega)).trans (ws_row (by decide))) ((ws_row (by decide)).trans ((pr_row_ne (by decide)).trans ((pr_row_ne (by decide)).trans ((pr_row_ne (by decide)).trans ((pr_row_ne (by decide)).trans ((pr_row_ne (by decide)).trans ((pr_row_ne (by decide)).trans ((pr_row_ne (by decide)).trans ((pr_row_ne (by decide)).trans ((pr_row_ne (by decide)).trans ((pr_row_ne (by decide)).trans ((pr_row_ne (by decide)).trans ((pr_row_ne (by decide)).trans ((pr_row_ne (by decide)).trans (pr_up_ne (by decide)))))))))))))))) (ws_put_row (by decide)) (Nat.le_of_ble_eq_true rfl) dX4_copyFrom_243 ?_
  refine pr_aload_n hA dX4_copyFrom_246 rfl ?_
  refine pr_getR hA f_X4_54 rfl (wk_18 hv) (wf_18_14 hv) dX4_copyFrom_247 ?_
  refine pr_iconst hA (nI 0) dX4_copyFrom_250 (by decide) ?_
  refine pr_aload_n hA dX4_copyFrom_251 rfl ?_
  refine pr_getR hA f_X4_54 rfl (wk_18 hw) (wf_18_14 hw) dX4_copyFrom_252 ?_
  refine pr_iconst hA (nI 0) dX4_copyFrom_255 (by decide) ?_
  refine pr_aload_n hA dX4_copyFrom_256 rfl ?_
  refine pr_getE (v := (nI nr)) hA f_X4_65 rfl (wk_18 hw) ((ws_val (by decide)).trans ((pr_rwv (by decide)).trans ((pr_rwv (by decide)).trans ((pr_rwv (by decide)).trans ((pr_rwv (by decide)).trans ((pr_rwv (by decide)).trans ((pr_rwv (by decide)).trans ((pr_rwv (by decide)).trans ((pr_rwv (by decide)).trans ((pr_rwv (by decide)).trans ((pr_rwv (by decide)).trans ((pr_rwv (by decide)).trans ((pr_rwv (by decide)).trans ((pr_rwv (by decide)).trans ((pr_rwv (by decide)).trans pr_upe))))))))))))))) dX4_copyFrom_257 ?_
  refine pr_cpyE (I' := (ws_put (ws_put I v τ) w (pr_row (pr_row (pr_row (pr_row (pr_row (pr_row (pr_row (pr_row (pr_row (pr_row (pr_row (pr_row (pr_row (pr_row (pr_row (pr_up σ 18 17 (nI nr)) 19 (cp_row (τ 19) (σ 19) nr)) 20 (cp_row (τ 20) (σ 20) nr)) 21 (cp_row (τ 21) (σ 21) nr)) 22 (cp_row (τ 22) (σ 22) nr)) 23 (cp_row (τ 23) (σ 23) nr)) 24 (cp_row (τ 24) (σ 24) nr)) 25 (cp_row (τ 25) (σ 25) nr)) 26 (cp_row (τ 26) (σ 26) nr)) 27 (cp_row (τ 27) (σ 27) nr)) 28 (cp_row (τ 28) (σ 28) nr)) 29 (cp_row (τ 29) (σ 29) nr)) 30 (cp_row (τ 30) (σ 30) nr)) 31 (cp_row (τ 31) (σ 31) nr)) 32 (cp_row (τ 32) (σ 32) nr)) 33 (cp_row (τ 33) (σ 33) nr)))) hA ⟨kM_X4_69, kN_System_arraycopy__Ljava_lang_Object_ILjava_lang_Object_II_V, kT_System_arraycopy__Ljava_lang_Object_ILjava_lang_Object_II_V, kZ_J10⟩ (by decide) (wk_33 hv) (wk_33 hw) (by omega) (by omega) (by omega) ((ws_out (by omega)).trans (ws_row (by decide))) ((ws_row (by decide)).trans ((pr_row_ne (by decide)).trans ((pr_row_ne (by decide)).trans ((pr_row_ne (by decide)).trans ((pr_row_ne (by decide)).trans ((pr_row_ne (by decide)).trans ((pr_row_ne (by decide)).trans ((pr_row_ne (by decide)).trans ((pr_row_ne (by decide)).trans ((pr_row_ne (by decide)).trans ((pr_row_ne (by decide)).trans ((pr_row_ne (by decide)).trans ((pr_row_ne (by decide)).trans ((pr_row_ne (by decide)).trans ((pr_row_ne (by decide)).trans (pr_up_ne (by decide))))))))))))))))) (ws_put_row (by decide)) (Nat.le_of_ble_eq_true rfl) dX4_copyFrom_260 ?_
  refine pr_iconst hA (nI 0) dX4_copyFrom_263 (by decide) ?_
  refine pr_istore_n (ls' := [_, _, _]) hA dX4_copyFrom_264 (by decide) rfl ?_
  have lp265 : ∀ (j k : Nat), nr - k = j → k ≤ nr → pr_G g X mX4_copyFrom.2.2.1 (pr_MQ g X (pr_R none T (ws_put (ws_put I v τ) w (rq_cp σ τ nr)) L) pr_no 0 0) 0 0 265 [.ref (w + 18), .ref (v + 18), .int (nI k)] [] T (ws_put (ws_put I v τ) w (rq_cp_it265 σ τ nr k)) L := by
    intro j
    induction j using Nat.strongRecOn with | ind j ih265 =>
    intro k hj265 hk265
    refine pr_iload_n hA dX4_copyFrom_265 rfl ?_
    refine pr_aload_n hA dX4_copyFrom_266 rfl ?_
    refine pr_getE (v := (nI nr)) hA f_X4_65 rfl (wk_18 hw) ((ws_val (by decide)).trans ((congrFun (fr_rq_cp_it265 (fun m hm => by cases hm) (by decide) (by omega)) _).trans ((pr_rwv (by decide)).trans ((pr_rwv (by decide)).trans ((pr_rwv (by decide)).trans ((pr_rwv (by decide)).trans ((pr_rwv (by decide)).trans ((pr_rwv (by decide)).trans ((pr_rwv (by decide)).trans ((pr_rwv (by decide)).trans ((pr_rwv (by decide)).trans ((pr_rwv (by decide)).trans ((pr_rwv (by decide)).trans ((pr_rwv (by decide)).trans ((pr_rwv (by decide)).trans ((pr_rwv (by decide)).trans ((pr_rwv (by decide)).trans pr_upe))))))))))))))))) dX4_copyFrom_267 ?_
    refine pr_icmp_ge hA 317 dX4_copyFrom_270 (by decide) (fun c_270 => ?_) (fun c_270 => ?_)
    · have n_270 : nr ≤ k := (nI_leI (by omega) (by omega)).mp c_270
      have hex : nr = k := by omega
      subst hex
      exact pr_return hA rfl (Nat.zero_le _) (Nat.zero_le _) dX4_copyFrom_317 ⟨rfl, rfl, rfl, rfl⟩
    · have n_270 : ¬ nr ≤ k := fun q => c_270 ((nI_leI (by omega) (by omega)).mpr q)
      refine pr_aload_n hA dX4_copyFrom_273 rfl ?_
      refine pr_getR hA f_X4_59 rfl (wk_18 hv) (wf_18_15 hv) dX4_copyFrom_274 ?_
      refine pr_iload_n hA dX4_copyFrom_277 rfl ?_
      refine pr_aaldN (t := 24) (n := 40) hA (Or.inl rfl) (wk_34 hv) (by omega) (by decide) (wf_p hv (by omega)) dX4_copyFrom_278 ?_
      refine pr_iconst hA (nI 0) dX4_copyFrom_279 (by decide) ?_
      refine pr_aload_n hA dX4_copyFrom_280 rfl ?_
      refine pr_getR hA f_X4_59 rfl (wk_18 hw) (wf_18_15 hw) dX4_copyFrom_281 ?_
      refine pr_iload_n hA dX4_copyFrom_284 rfl ?_
      refine pr_aaldN (t := 24) (n := 40) hA (Or.inl rfl) (wk_34 hw) (by omega) (by decide) (wf_p hw (by omega)) dX4_copyFrom_285 ?_
      refine pr_iconst hA (nI 0) dX4_copyFrom_286 (by decide) ?_
      refine pr_bipush hA (nI 11) dX4_copyFrom_287 (by decide) ?_
      refine pr_cpyE (I' := (ws_put (ws_put I v τ) w (pr_row (rq_cp_it265 σ τ nr k) (35 + k) (cp_row (τ (35 + k)) ((rq_cp_it265 σ τ nr k) (35 + k)) 11)))) hA ⟨kM_X4_69, kN_System_arraycopy__Ljava_lang_Object_ILjava_lang_Object_II_V, kT_System_arraycopy__Ljava_lang_Object_ILjava_lang_Object_II_V, kZ_J10⟩ (by decide) (wk_p hv (by omega)) (wk_p hw (by omega)) (by omega) (by omega) (by omega) ((ws_out (by omega)).trans (ws_row (by omega))) (ws_row (by omega)) (ws_put_row (by omega)) (Nat.le_of_ble_eq_true rfl) dX4_copyFrom_289 ?_
      refine pr_aload_n hA dX4_copyFrom_292 rfl ?_
      refine pr_getR hA f_X4_62 rfl (wk_18 hv) (wf_18_16 hv) dX4_copyFrom_293 ?_
      refine pr_iload_n hA dX4_copyFrom_296 rfl ?_
      refine pr_aaldN (t := 24) (n := 40) hA (Or.inl rfl) (wk_75 hv) (by omega) (by decide) (wf_q hv (by omega)) dX4_copyFrom_297 ?_
      refine pr_iconst hA (nI 0) dX4_copyFrom_298 (by decide) ?_
      refine pr_aload_n hA dX4_copyFrom_299 rfl ?_
      refine pr_getR hA f_X4_62 rfl (wk_18 hw) (wf_18_16 hw) dX4_copyFrom_300 ?_
      refine pr_iload_n hA dX4_copyFrom_303 rfl ?_
      refine pr_aaldN (t := 24) (n := 40) hA (Or.inl rfl) (wk_75 hw) (by omega) (by decide) (wf_q hw (by omega)) dX4_copyFrom_304 ?_
      refine pr_iconst hA (nI 0) dX4_copyFrom_305 (by decide) ?_
      refine pr_bipush hA (nI 11) dX4_copyFrom_306 (by decide) ?_
      refine pr_cpyE (I' := (ws_put (ws_put I v τ) w (pr_row (pr_row (rq_cp_it265 σ τ nr k) (35 + k) (cp_row (τ (35 + k)) ((rq_cp_it265 σ τ nr k) (35 + k)) 11)) (76 + k) (cp_row (τ (76 + k)) ((rq_cp_it265 σ τ nr k) (76 + k)) 11)))) hA ⟨kM_X4_69, kN_System_arraycopy__Ljava_lang_Object_ILjava_lang_Object_II_V, kT_System_arraycopy__Ljava_lang_Object_ILjava_lang_Object_II_V, kZ_J10⟩ (by decide) (wk_q hv (by omega)) (wk_q hw (by omega)) (by omega) (by omega) (by omega) ((ws_out (by omega)).trans (ws_row (by omega))) ((ws_row (by omega)).trans (pr_row_ne (by omega))) (ws_put_row (by omega)) (Nat.le_of_ble_eq_true rfl) dX4_copyFrom_308 ?_
      refine pr_iinc (ls' := [_, _, _]) hA (nI (k + 1)) dX4_copyFrom_311 (by decide) rfl (nI_inc _) rfl ?_
      refine pr_goto hA 265 dX4_copyFrom_314 (by decide) ?_
      have hb := ih265 (nr - (k + 1)) (by omega) (k + 1) rfl (by omega)
      simp only [rq_cp_it265] at hb
      exact hb
  exact (lp265 (nr - 0) 0 rfl (by omega))

theorem fr_rq_cp {σ : pr_I} {τ : pr_I} {nr : Nat} {o : Nat} (hms : ∀ m ∈ ([18, 19, 20, 21, 22, 23, 24, 25, 26, 27, 28, 29, 30, 31, 32, 33] : List Nat), o ≠ m) (hp : o < 35 ∨ 115 < o) (hnr40 : nr ≤ 40) : rq_cp σ τ nr o = σ o := by
  unfold rq_cp
  simp only [List.mem_cons, List.not_mem_nil, or_false, forall_eq_or_imp, forall_eq] at hms
  rw [fr_rq_cp_it265 (fun m hm => by cases hm) (by omega) (by omega), pr_row_ne (by omega), pr_row_ne (by omega), pr_row_ne (by omega), pr_row_ne (by omega), pr_row_ne (by omega), pr_row_ne (by omega), pr_row_ne (by omega), pr_row_ne (by omega), pr_row_ne (by omega), pr_row_ne (by omega), pr_row_ne (by omega), pr_row_ne (by omega), pr_row_ne (by omega), pr_row_ne (by omega), pr_row_ne (by omega), pr_up_ne (by omega)]

def lk_val (σ : pr_I) (k c : Nat) : Int32 := match c with | 0 => σ 2 k | 1 => σ 3 k | 2 => σ 4 k | 3 => σ 5 k | 4 => σ 6 k | 5 => σ 7 k | 6 => lk_av σ k | 7 => σ 8 k | _ => if lk_up σ k = 0 then 0 else 1
def rq_val (σ : pr_I) (k c : Nat) : Int32 := match c with | 0 => σ 19 k | 1 => σ 20 k | 2 => σ 21 k | 3 => σ 22 k | 4 => σ 23 k | 5 => σ 24 k | 6 => σ 25 k | 7 => σ 26 k | 8 => σ 27 k | 9 => σ 28 k | 10 => σ 29 k | 11 => σ 30 k | _ => σ 31 k
set_option maxRecDepth 100000 in
set_option maxHeartbeats 4000000 in
theorem c_lkval {g : pr_C} {l : Launch} (hl : l.stackTraces = false) {T : pr_T} {I : pr_I} {L : pr_L} {w : Nat} {σ : pr_I} {k c : Nat} (hw : pr_W T w) (hk : k < 24) (hc : c ≤ 8) : pr_M g l 2 0 0 mX2_value [.ref (w + 1), .int (nI k), .int (nI c)] T (ws_put I w σ) L (pr_R (some (.int (lk_val σ k c))) T (ws_put I w σ) L) pr_no := by
  refine pr_ofG (by decide) rfl hl (Nat.le_of_ble_eq_true rfl) (fun X hA hX hXn hXt => ?_)
  subst hX
  show pr_G g X mX2_value.2.2.1 _ 0 0 0 [.ref (w + 1), .int (nI k), .int (nI c)] [] T (ws_put I w σ) L
  refine pr_iload_n hA dX2_value_0 rfl ?_
  rcases (by omega : c = 0 ∨ c = 1 ∨ c = 2 ∨ c = 3 ∨ c = 4 ∨ c = 5 ∨ c = 6 ∨ c = 7 ∨ c = 8) with rfl | rfl | rfl | rfl | rfl | rfl | rfl | rfl | rfl
  · refine pr_tableIn (off := 47) hA 48 dX2_value_1 (by decide) (by decide) (by decide +kernel) (by decide) ?_
    refine pr_aload_n hA dX2_value_48 rfl ?_
    refine pr_getR hA f_X2_9 rfl (wk_1 hw) (wf_1_0 hw) dX2_value_49 ?_
    refine pr_iload_n hA dX2_value_52 rfl ?_
    refine pr_ialdN (v := (σ 2 k)) hA (wk_2 hw) (by omega) (by decide) (ws_val (by decide)) dX2_value_53 ?_
    exact pr_ireturn hA rfl rfl (Nat.zero_le _) (Nat.zero_le _) dX2_value_54 ⟨by first | rfl | (show _ = some (Value.int (if lk_up σ k = 0 then (0 : Int32) else 1)); by_cases q : lk_up σ k = 0 <;> simp [q]), rfl, rfl, rfl⟩
  · refine pr_tableIn (off := 54) hA 55 dX2_value_1 (by decide) (by decide) (by decide +kernel) (by decide) ?_
    refine pr_aload_n hA dX2_value_55 rfl ?_
    refine pr_getR hA f_X2_15 rfl (wk_1 hw) (wf_1_1 hw) dX2_value_56 ?_
    refine pr_iload_n hA dX2_value_59 rfl ?_
    refine pr_ialdN (v := (σ 3 k)) hA (wk_3 hw) (by omega) (by decide) (ws_val (by decide)) dX2_value_60 ?_
    exact pr_ireturn hA rfl rfl (Nat.zero_le _) (Nat.zero_le _) dX2_value_61 ⟨by first | rfl | (show _ = some (Value.int (if lk_up σ k = 0 then (0 : Int32) else 1)); by_cases q : lk_up σ k = 0 <;> simp [q]), rfl, rfl, rfl⟩
  · refine pr_tableIn (off := 61) hA 62 dX2_value_1 (by decide) (by decide) (by decide +kernel) (by decide) ?_
    refine pr_aload_n hA dX2_value_62 rfl ?_
    refine pr_getR hA f_X2_18 rfl (wk_1 hw) (wf_1_2 hw) dX2_value_63 ?_
    refine pr_iload_n hA dX2_value_66 rfl ?_
    refine pr_ialdN (v := (σ 4 k)) hA (wk_4 hw) (by omega) (by decide) (ws_val (by decide)) dX2_value_67 ?_
    exact pr_ireturn hA rfl rfl (Nat.zero_le _) (Nat.zero_le _) dX2_value_68 ⟨by first | rfl | (show _ = some (Value.int (if lk_up σ k = 0 then (0 : Int32) else 1)); by_cases q : lk_up σ k = 0 <;> simp [q]), rfl, rfl, rfl⟩
  · refine pr_tableIn (off := 68) hA 69 dX2_value_1 (by decide) (by decide) (by decide +kernel) (by decide) ?_
    refine pr_aload_n hA dX2_value_69 rfl ?_
    refine pr_getR hA f_X2_21 rfl (wk_1 hw) (wf_1_3 hw) dX2_value_70 ?_
    refine pr_iload_n hA dX2_value_73 rfl ?_
    refine pr_ialdN (v := (σ 5 k)) hA (wk_5 hw) (by omega) (by decide) (ws_val (by decide)) dX2_value_74 ?_
    exact pr_ireturn hA rfl rfl (Nat.zero_le _) (Nat.zero_le _) dX2_value_75 ⟨by first | rfl | (show _ = some (Value.int (if lk_up σ k = 0 then (0 : Int32) else 1)); by_cases q : lk_up σ k = 0 <;> simp [q]), rfl, rfl, rfl⟩
  · refine pr_tableIn (off := 75) hA 76 dX2_value_1 (by decide) (by decide) (by decide +kernel) (by decide) ?_
    refine pr_aload_n hA dX2_value_76 rfl ?_
    refine pr_getR hA f_X2_24 rfl (wk_1 hw) (wf_1_4 hw) dX2_value_77 ?_
    refine pr_iload_n hA dX2_value_80 rfl ?_
    refine pr_ialdN (v := (σ 6 k)) hA (wk_6 hw) (by omega) (by decide) (ws_val (by decide)) dX2_value_81 ?_
    exact pr_ireturn hA rfl rfl (Nat.zero_le _) (Nat.zero_le _) dX2_value_82 ⟨by first | rfl | (show _ = some (Value.int (if lk_up σ k = 0 then (0 : Int32) else 1)); by_cases q : lk_up σ k = 0 <;> simp [q]), rfl, rfl, rfl⟩
  · refine pr_tableIn (off := 82) hA 83 dX2_value_1 (by decide) (by decide) (by decide +kernel) (by decide) ?_
    refine pr_aload_n hA dX2_value_83 rfl ?_
    refine pr_getR hA f_X2_27 rfl (wk_1 hw) (wf_1_5 hw) dX2_value_84 ?_
    refine pr_iload_n hA dX2_value_87 rfl ?_
    refine pr_ialdN (v := (σ 7 k)) hA (wk_7 hw) (by omega) (by decide) (ws_val (by decide)) dX2_value_88 ?_
    exact pr_ireturn hA rfl rfl (Nat.zero_le _) (Nat.zero_le _) dX2_value_89 ⟨by first | rfl | (show _ = some (Value.int (if lk_up σ k = 0 then (0 : Int32) else 1)); by_cases q : lk_up σ k = 0 <;> simp [q]), rfl, rfl, rfl⟩
  · refine pr_tableIn (off := 89) hA 90 dX2_value_1 (by decide) (by decide) (by decide +kernel) (by decide) ?_
    refine pr_aload_n hA dX2_value_90 rfl ?_
    refine pr_iload_n hA dX2_value_91 rfl ?_
    refine pr_callVi hA [.int (nI k)] (c_available (pr_hl hA) hw (by omega)) v_X2_40 (wk_1 hw) (by decide) rfl rfl rfl (by decide) (Nat.zero_le _) (Nat.zero_le _) rfl (Nat.le_of_ble_eq_true rfl) dX2_value_92 ?_
    exact pr_ireturn hA rfl rfl (Nat.zero_le _) (Nat.zero_le _) dX2_value_95 ⟨by first | rfl | (show _ = some (Value.int (if lk_up σ k = 0 then (0 : Int32) else 1)); by_cases q : lk_up σ k = 0 <;> simp [q]), rfl, rfl, rfl⟩
  · refine pr_tableIn (off := 95) hA 96 dX2_value_1 (by decide) (by decide) (by decide +kernel) (by decide) ?_
    refine pr_aload_n hA dX2_value_96 rfl ?_
    refine pr_getR hA f_X2_30 rfl (wk_1 hw) (wf_1_6 hw) dX2_value_97 ?_
    refine pr_iload_n hA dX2_value_100 rfl ?_
    refine pr_ialdN (v := (σ 8 k)) hA (wk_8 hw) (by omega) (by decide) (ws_val (by decide)) dX2_value_101 ?_
    exact pr_ireturn hA rfl rfl (Nat.zero_le _) (Nat.zero_le _) dX2_value_102 ⟨by first | rfl | (show _ = some (Value.int (if lk_up σ k = 0 then (0 : Int32) else 1)); by_cases q : lk_up σ k = 0 <;> simp [q]), rfl, rfl, rfl⟩
  · refine pr_tableOut hA 103 dX2_value_1 (by decide) (by decide) ?_
    refine pr_aload_n hA dX2_value_103 rfl ?_
    refine pr_iload_n hA dX2_value_104 rfl ?_
    refine pr_callVi hA [.int (nI k)] (c_isUp (pr_hl hA) hw) v_X2_44 (wk_1 hw) (by decide) rfl rfl rfl (by decide) (Nat.zero_le _) (Nat.zero_le _) rfl (Nat.le_of_ble_eq_true rfl) dX2_value_105 ?_
    refine pr_join (c := (if lk_up σ k = 0 then (0 : Int32) else 1) = 0) (J := 116) (st := []) (0 : Int32) (1 : Int32) inferInstance (fun kt kf => ?_) ?_
    · refine pr_if_eq hA 115 dX2_value_108 (by decide) (fun c_108 => ?_) (fun c_108 => ?_)
      · refine pr_iconst hA (0) dX2_value_115 (by decide) ?_
        exact kt c_108
      · refine pr_iconst hA (1) dX2_value_111 (by decide) ?_
        refine pr_goto hA 116 dX2_value_112 (by decide) ?_
        exact kf c_108
    · exact pr_ireturn hA rfl rfl (Nat.zero_le _) (Nat.zero_le _) dX2_value_116 ⟨by first | rfl | (show _ = some (Value.int (if lk_up σ k = 0 then (0 : Int32) else 1)); by_cases q : lk_up σ k = 0 <;> simp [q]), rfl, rfl, rfl⟩

set_option maxRecDepth 100000 in
set_option maxHeartbeats 4000000 in
theorem c_rqval {g : pr_C} {l : Launch} (hl : l.stackTraces = false) {T : pr_T} {I : pr_I} {L : pr_L} {w : Nat} {σ : pr_I} {k c : Nat} (hw : pr_W T w) (hk : k < 40) (hc : c ≤ 12) : pr_M g l 1 0 0 mX4_value [.ref (w + 18), .int (nI k), .int (nI c)] T (ws_put I w σ) L (pr_R (some (.int (rq_val σ k c))) T (ws_put I w σ) L) pr_no := by
  refine pr_ofG (by decide) rfl hl (Nat.le_of_ble_eq_true rfl) (fun X hA hX hXn hXt => ?_)
  subst hX
  show pr_G g X mX4_value.2.2.1 _ 0 0 0 [.ref (w + 18), .int (nI k), .int (nI c)] [] T (ws_put I w σ) L
  refine pr_iload_n hA dX4_value_0 rfl ?_
  rcases (by omega : c = 0 ∨ c = 1 ∨ c = 2 ∨ c = 3 ∨ c = 4 ∨ c = 5 ∨ c = 6 ∨ c = 7 ∨ c = 8 ∨ c = 9 ∨ c = 10 ∨ c = 11 ∨ c = 12) with rfl | rfl | rfl | rfl | rfl | rfl | rfl | rfl | rfl | rfl | rfl | rfl | rfl
  · refine pr_tableIn (off := 63) hA 64 dX4_value_1 (by decide) (by decide) (by decide +kernel) (by decide) ?_
    refine pr_aload_n hA dX4_value_64 rfl ?_
    refine pr_getR hA f_X4_9 rfl (wk_18 hw) (wf_18_0 hw) dX4_value_65 ?_
    refine pr_iload_n hA dX4_value_68 rfl ?_
    refine pr_ialdN (v := (σ 19 k)) hA (wk_19 hw) (by omega) (by decide) (ws_val (by decide)) dX4_value_69 ?_
    exact pr_ireturn hA rfl rfl (Nat.zero_le _) (Nat.zero_le _) dX4_value_70 ⟨rfl, rfl, rfl, rfl⟩
  · refine pr_tableIn (off := 70) hA 71 dX4_value_1 (by decide) (by decide) (by decide +kernel) (by decide) ?_
    refine pr_aload_n hA dX4_value_71 rfl ?_
    refine pr_getR hA f_X4_15 rfl (wk_18 hw) (wf_18_1 hw) dX4_value_72 ?_
    refine pr_iload_n hA dX4_value_75 rfl ?_
    refine pr_ialdN (v := (σ 20 k)) hA (wk_20 hw) (by omega) (by decide) (ws_val (by decide)) dX4_value_76 ?_
    exact pr_ireturn hA rfl rfl (Nat.zero_le _) (Nat.zero_le _) dX4_value_77 ⟨rfl, rfl, rfl, rfl⟩
  · refine pr_tableIn (off := 77) hA 78 dX4_value_1 (by decide) (by decide) (by decide +kernel) (by decide) ?_
    refine pr_aload_n hA dX4_value_78 rfl ?_
    refine pr_getR hA f_X4_18 rfl (wk_18 hw) (wf_18_2 hw) dX4_value_79 ?_
    refine pr_iload_n hA dX4_value_82 rfl ?_
    refine pr_ialdN (v := (σ 21 k)) hA (wk_21 hw) (by omega) (by decide) (ws_val (by decide)) dX4_value_83 ?_
    exact pr_ireturn hA rfl rfl (Nat.zero_le _) (Nat.zero_le _) dX4_value_84 ⟨rfl, rfl, rfl, rfl⟩
  · refine pr_tableIn (off := 84) hA 85 dX4_value_1 (by decide) (by decide) (by decide +kernel) (by decide) ?_
    refine pr_aload_n hA dX4_value_85 rfl ?_
    refine pr_getR hA f_X4_21 rfl (wk_18 hw) (wf_18_3 hw) dX4_value_86 ?_
    refine pr_iload_n hA dX4_value_89 rfl ?_
    refine pr_ialdN (v := (σ 22 k)) hA (wk_22 hw) (by omega) (by decide) (ws_val (by decide)) dX4_value_90 ?_
    exact pr_ireturn hA rfl rfl (Nat.zero_le _) (Nat.zero_le _) dX4_value_91 ⟨rfl, rfl, rfl, rfl⟩
  · refine pr_tableIn (off := 91) hA 92 dX4_value_1 (by decide) (by decide) (by decide +kernel) (by decide) ?_
    refine pr_aload_n hA dX4_value_92 rfl ?_
    refine pr_getR hA f_X4_24 rfl (wk_18 hw) (wf_18_4 hw) dX4_value_93 ?_
    refine pr_iload_n hA dX4_value_96 rfl ?_
    refine pr_ialdN (v := (σ 23 k)) hA (wk_23 hw) (by omega) (by decide) (ws_val (by decide)) dX4_value_97 ?_
    exact pr_ireturn hA rfl rfl (Nat.zero_le _) (Nat.zero_le _) dX4_value_98 ⟨rfl, rfl, rfl, rfl⟩
  · refine pr_tableIn (off := 98) hA 99 dX4_value_1 (by decide) (by decide) (by decide +kernel) (by decide) ?_
    refine pr_aload_n hA dX4_value_99 rfl ?_
    refine pr_getR hA f_X4_27 rfl (wk_18 hw) (wf_18_5 hw) dX4_value_100 ?_
    refine pr_iload_n hA dX4_value_103 rfl ?_
    refine pr_ialdN (v := (σ 24 k)) hA (wk_24 hw) (by omega) (by decide) (ws_val (by decide)) dX4_value_104 ?_
    exact pr_ireturn hA rfl rfl (Nat.zero_le _) (Nat.zero_le _) dX4_value_105 ⟨rfl, rfl, rfl, rfl⟩
  · refine pr_tableIn (off := 105) hA 106 dX4_value_1 (by decide) (by decide) (by decide +kernel) (by decide) ?_
    refine pr_aload_n hA dX4_value_106 rfl ?_
    refine pr_getR hA f_X4_30 rfl (wk_18 hw) (wf_18_6 hw) dX4_value_107 ?_
    refine pr_iload_n hA dX4_value_110 rfl ?_
    refine pr_ialdN (v := (σ 25 k)) hA (wk_25 hw) (by omega) (by decide) (ws_val (by decide)) dX4_value_111 ?_
    exact pr_ireturn hA rfl rfl (Nat.zero_le _) (Nat.zero_le _) dX4_value_112 ⟨rfl, rfl, rfl, rfl⟩
  · refine pr_tableIn (off := 112) hA 113 dX4_value_1 (by decide) (by decide) (by decide +kernel) (by decide) ?_
    refine pr_aload_n hA dX4_value_113 rfl ?_
    refine pr_getR hA f_X4_33 rfl (wk_18 hw) (wf_18_7 hw) dX4_value_114 ?_
    refine pr_iload_n hA dX4_value_117 rfl ?_
    refine pr_ialdN (v := (σ 26 k)) hA (wk_26 hw) (by omega) (by decide) (ws_val (by decide)) dX4_value_118 ?_
    exact pr_ireturn hA rfl rfl (Nat.zero_le _) (Nat.zero_le _) dX4_value_119 ⟨rfl, rfl, rfl, rfl⟩
  · refine pr_tableIn (off := 119) hA 120 dX4_value_1 (by decide) (by decide) (by decide +kernel) (by decide) ?_
    refine pr_aload_n hA dX4_value_120 rfl ?_
    refine pr_getR hA f_X4_36 rfl (wk_18 hw) (wf_18_8 hw) dX4_value_121 ?_
    refine pr_iload_n hA dX4_value_124 rfl ?_
    refine pr_ialdN (v := (σ 27 k)) hA (wk_27 hw) (by omega) (by decide) (ws_val (by decide)) dX4_value_125 ?_
    exact pr_ireturn hA rfl rfl (Nat.zero_le _) (Nat.zero_le _) dX4_value_126 ⟨rfl, rfl, rfl, rfl⟩
  · refine pr_tableIn (off := 126) hA 127 dX4_value_1 (by decide) (by decide) (by decide +kernel) (by decide) ?_
    refine pr_aload_n hA dX4_value_127 rfl ?_
    refine pr_getR hA f_X4_39 rfl (wk_18 hw) (wf_18_9 hw) dX4_value_128 ?_
    refine pr_iload_n hA dX4_value_131 rfl ?_
    refine pr_ialdN (v := (σ 28 k)) hA (wk_28 hw) (by omega) (by decide) (ws_val (by decide)) dX4_value_132 ?_
    exact pr_ireturn hA rfl rfl (Nat.zero_le _) (Nat.zero_le _) dX4_value_133 ⟨rfl, rfl, rfl, rfl⟩
  · refine pr_tableIn (off := 133) hA 134 dX4_value_1 (by decide) (by decide) (by decide +kernel) (by decide) ?_
    refine pr_aload_n hA dX4_value_134 rfl ?_
    refine pr_getR hA f_X4_42 rfl (wk_18 hw) (wf_18_10 hw) dX4_value_135 ?_
    refine pr_iload_n hA dX4_value_138 rfl ?_
    refine pr_ialdN (v := (σ 29 k)) hA (wk_29 hw) (by omega) (by decide) (ws_val (by decide)) dX4_value_139 ?_
    exact pr_ireturn hA rfl rfl (Nat.zero_le _) (Nat.zero_le _) dX4_value_140 ⟨rfl, rfl, rfl, rfl⟩
  · refine pr_tableIn (off := 140) hA 141 dX4_value_1 (by decide) (by decide) (by decide +kernel) (by decide) ?_
    refine pr_aload_n hA dX4_value_141 rfl ?_
    refine pr_getR hA f_X4_45 rfl (wk_18 hw) (wf_18_11 hw) dX4_value_142 ?_
    refine pr_iload_n hA dX4_value_145 rfl ?_
    refine pr_ialdN (v := (σ 30 k)) hA (wk_30 hw) (by omega) (by decide) (ws_val (by decide)) dX4_value_146 ?_
    exact pr_ireturn hA rfl rfl (Nat.zero_le _) (Nat.zero_le _) dX4_value_147 ⟨rfl, rfl, rfl, rfl⟩
  · refine pr_tableOut hA 148 dX4_value_1 (by decide) (by decide) ?_
    refine pr_aload_n hA dX4_value_148 rfl ?_
    refine pr_getR hA f_X4_48 rfl (wk_18 hw) (wf_18_12 hw) dX4_value_149 ?_
    refine pr_iload_n hA dX4_value_152 rfl ?_
    refine pr_ialdN (v := (σ 31 k)) hA (wk_31 hw) (by omega) (by decide) (ws_val (by decide)) dX4_value_153 ?_
    exact pr_ireturn hA rfl rfl (Nat.zero_le _) (Nat.zero_le _) dX4_value_154 ⟨rfl, rfl, rfl, rfl⟩

def rq_add (σ : pr_I) (nr : Nat) (f : Int32) (t : Int32) (u : Int32) (q : Int32) (now : Int32) : pr_I := (pr_up (pr_up (pr_up (pr_up (pr_up (pr_up (pr_up (pr_up (pr_up (pr_up (pr_up (pr_up (pr_up (pr_up (pr_up (pr_up σ 19 nr f) 20 nr t) 21 nr u) 22 nr q) 23 nr (7 : Int32)) 24 nr (0 : Int32)) 25 nr now) 26 nr (0 : Int32)) 27 nr (0 : Int32)) 28 nr (0 : Int32)) 29 nr ((-1) : Int32)) 30 nr ((-1) : Int32)) 31 nr ((-1) : Int32)) 32 nr (0 : Int32)) 33 nr (0 : Int32)) 18 17 (nI (nr + 1)))
set_option maxRecDepth 100000 in
set_option maxHeartbeats 4000000 in
theorem c_rq_add {g : pr_C} {l : Launch} (hl : l.stackTraces = false) {T : pr_T} {I : pr_I} {L : pr_L} {w : Nat} {σ : pr_I} {nr : Nat} {f : Int32} {t : Int32} {u : Int32} {q : Int32} {now : Int32} (hw : pr_W T w) (hnr : σ 18 17 = nI nr) (hnr40 : nr < 40) : pr_M g l 1 0 0 mX4_add [.ref (w + 18), .int f, .int t, .int u, .int q, .int now] T (ws_put I w σ) L (pr_R none T (ws_put I w (rq_add σ nr f t u q now)) L) pr_no := by
  refine pr_ofG (by decide) rfl hl (Nat.le_of_ble_eq_true rfl) (fun X hA hX hXn hXt => ?_)
  subst hX
  show pr_G g X mX4_add.2.2.1 _ 0 0 0 [.ref (w + 18), .int f, .int t, .int u, .int q, .int now] [] T (ws_put I w σ) L
  refine pr_aload_n hA dX4_add_0 rfl ?_
  refine pr_getR hA f_X4_9 rfl (wk_18 hw) (wf_18_0 hw) dX4_add_1 ?_
  refine pr_aload_n hA dX4_add_4 rfl ?_
  refine pr_getE (v := (nI nr)) hA f_X4_65 rfl (wk_18 hw) ((ws_val (by decide)).trans hnr) dX4_add_5 ?_
  refine pr_iload_n hA dX4_add_8 rfl ?_
  refine pr_iastN (I' := (ws_put I w (pr_up σ 19 nr f))) hA (wk_19 hw) (by omega) (by decide) (ws_up (by decide)) dX4_add_9 ?_
  refine pr_aload_n hA dX4_add_10 rfl ?_
  refine pr_getR hA f_X4_15 rfl (wk_18 hw) (wf_18_1 hw) dX4_add_11 ?_
  refine pr_aload_n hA dX4_add_14 rfl ?_
  refine pr_getE (v := (nI nr)) hA f_X4_65 rfl (wk_18 hw) ((ws_val (by decide)).trans ((pr_upv (by decide)).trans hnr)) dX4_add_15 ?_
  refine pr_iload_n hA dX4_add_18 rfl ?_
  refine pr_iastN (I' := (ws_put I w (pr_up (pr_up σ 19 nr f) 20 nr t))) hA (wk_20 hw) (by omega) (by decide) (ws_up (by decide)) dX4_add_19 ?_
  refine pr_aload_n hA dX4_add_20 rfl ?_
  refine pr_getR hA f_X4_18 rfl (wk_18 hw) (wf_18_2 hw) dX4_add_21 ?_
  refine pr_aload_n hA dX4_add_24 rfl ?_
  refine pr_getE (v := (nI nr)) hA f_X4_65 rfl (wk_18 hw) ((ws_val (by decide)).trans ((pr_upv (by decide)).trans ((pr_upv (by decide)).trans hnr))) dX4_add_25 ?_
  refine pr_iload_n hA dX4_add_28 rfl ?_
  refine pr_iastN (I' := (ws_put I w (pr_up (pr_up (pr_up σ 19 nr f) 20 nr t) 21 nr u))) hA (wk_21 hw) (by omega) (by decide) (ws_up (by decide)) dX4_add_29 ?_
  refine pr_aload_n hA dX4_add_30 rfl ?_
  refine pr_getR hA f_X4_21 rfl (wk_18 hw) (wf_18_3 hw) dX4_add_31 ?_
  refine pr_aload_n hA dX4_add_34 rfl ?_
  refine pr_getE (v := (nI nr)) hA f_X4_65 rfl (wk_18 hw) ((ws_val (by decide)).trans ((pr_upv (by decide)).trans ((pr_upv (by decide)).trans ((pr_upv (by decide)).trans hnr)))) dX4_add_35 ?_
  refine pr_iload hA dX4_add_38 rfl ?_
  refine pr_iastN (I' := (ws_put I w (pr_up (pr_up (pr_up (pr_up σ 19 nr f) 20 nr t) 21 nr u) 22 nr q))) hA (wk_22 hw) (by omega) (by decide) (ws_up (by decide)) dX4_add_40 ?_
  refine pr_aload_n hA dX4_add_41 rfl ?_
  refine pr_getR hA f_X4_24 rfl (wk_18 hw) (wf_18_4 hw) dX4_add_42 ?_
  refine pr_aload_n hA dX4_add_45 rfl ?_
  refine pr_getE (v := (nI nr)) hA f_X4_65 rfl (wk_18 hw) ((ws_val (by decide)).trans ((pr_upv (by decide)).trans ((pr_upv (by decide)).trans ((pr_upv (by decide)).trans ((pr_upv (by decide)).trans hnr))))) dX4_add_46 ?_
  refine pr_bipush hA (7) dX4_add_49 (by decide) ?_
  refine pr_iastN (I' := (ws_put I w (pr_up (pr_up (pr_up (pr_up (pr_up σ 19 nr f) 20 nr t) 21 nr u) 22 nr q) 23 nr (7 : Int32)))) hA (wk_23 hw) (by omega) (by decide) (ws_up (by decide)) dX4_add_51 ?_
  refine pr_aload_n hA dX4_add_52 rfl ?_
  refine pr_getR hA f_X4_27 rfl (wk_18 hw) (wf_18_5 hw) dX4_add_53 ?_
  refine pr_aload_n hA dX4_add_56 rfl ?_
  refine pr_getE (v := (nI nr)) hA f_X4_65 rfl (wk_18 hw) ((ws_val (by decide)).trans ((pr_upv (by decide)).trans ((pr_upv (by decide)).trans ((pr_upv (by decide)).trans ((pr_upv (by decide)).trans ((pr_upv (by decide)).trans hnr)))))) dX4_add_57 ?_
  refine pr_iconst hA (0) dX4_add_60 (by decide) ?_
  refine pr_iastN (I' := (ws_put I w (pr_up (pr_up (pr_up (pr_up (pr_up (pr_up σ 19 nr f) 20 nr t) 21 nr u) 22 nr q) 23 nr (7 : Int32)) 24 nr (0 : Int32)))) hA (wk_24 hw) (by omega) (by decide) (ws_up (by decide)) dX4_add_61 ?_
  refine pr_aload_n hA dX4_add_62 rfl ?_
  refine pr_getR hA f_X4_30 rfl (wk_18 hw) (wf_18_6 hw) dX4_add_63 ?_
  refine pr_aload_n hA dX4_add_66 rfl ?_
  refine pr_getE (v := (nI nr)) hA f_X4_65 rfl (wk_18 hw) ((ws_val (by decide)).trans ((pr_upv (by decide)).trans ((pr_upv (by decide)).trans ((pr_upv (by decide)).trans ((pr_upv (by decide)).trans ((pr_upv (by decide)).trans ((pr_upv (by decide)).trans hnr))))))) dX4_add_67 ?_
  refine pr_iload hA dX4_add_70 rfl ?_
  refine pr_iastN (I' := (ws_put I w (pr_up (pr_up (pr_up (pr_up (pr_up (pr_up (pr_up σ 19 nr f) 20 nr t) 21 nr u) 22 nr q) 23 nr (7 : Int32)) 24 nr (0 : Int32)) 25 nr now))) hA (wk_25 hw) (by omega) (by decide) (ws_up (by decide)) dX4_add_72 ?_
  refine pr_aload_n hA dX4_add_73 rfl ?_
  refine pr_getR hA f_X4_33 rfl (wk_18 hw) (wf_18_7 hw) dX4_add_74 ?_
  refine pr_aload_n hA dX4_add_77 rfl ?_
  refine pr_getE (v := (nI nr)) hA f_X4_65 rfl (wk_18 hw) ((ws_val (by decide)).trans ((pr_upv (by decide)).trans ((pr_upv (by decide)).trans ((pr_upv (by decide)).trans ((pr_upv (by decide)).trans ((pr_upv (by decide)).trans ((pr_upv (by decide)).trans ((pr_upv (by decide)).trans hnr)))))))) dX4_add_78 ?_
  refine pr_iconst hA (0) dX4_add_81 (by decide) ?_
  refine pr_iastN (I' := (ws_put I w (pr_up (pr_up (pr_up (pr_up (pr_up (pr_up (pr_up (pr_up σ 19 nr f) 20 nr t) 21 nr u) 22 nr q) 23 nr (7 : Int32)) 24 nr (0 : Int32)) 25 nr now) 26 nr (0 : Int32)))) hA (wk_26 hw) (by omega) (by decide) (ws_up (by decide)) dX4_add_82 ?_
  refine pr_aload_n hA dX4_add_83 rfl ?_
  refine pr_getR hA f_X4_36 rfl (wk_18 hw) (wf_18_8 hw) dX4_add_84 ?_
  refine pr_aload_n hA dX4_add_87 rfl ?_
  refine pr_getE (v := (nI nr)) hA f_X4_65 rfl (wk_18 hw) ((ws_val (by decide)).trans ((pr_upv (by decide)).trans ((pr_upv (by decide)).trans ((pr_upv (by decide)).trans ((pr_upv (by decide)).trans ((pr_upv (by decide)).trans ((pr_upv (by decide)).trans ((pr_upv (by decide)).trans ((pr_upv (by decide)).trans hnr))))))))) dX4_add_88 ?_
  refine pr_iconst hA (0) dX4_add_91 (by decide) ?_
  refine pr_iastN (I' := (ws_put I w (pr_up (pr_up (pr_up (pr_up (pr_up (pr_up (pr_up (pr_up (pr_up σ 19 nr f) 20 nr t) 21 nr u) 22 nr q) 23 nr (7 : Int32)) 24 nr (0 : Int32)) 25 nr now) 26 nr (0 : Int32)) 27 nr (0 : Int32)))) hA (wk_27 hw) (by omega) (by decide) (ws_up (by decide)) dX4_add_92 ?_
  refine pr_aload_n hA dX4_add_93 rfl ?_
  refine pr_getR hA f_X4_39 rfl (wk_18 hw) (wf_18_9 hw) dX4_add_94 ?_
  refine pr_aload_n hA dX4_add_97 rfl ?_
  refine pr_getE (v := (nI nr)) hA f_X4_65 rfl (wk_18 hw) ((ws_val (by decide)).trans ((pr_upv (by decide)).trans ((pr_upv (by decide)).trans ((pr_upv (by decide)).trans ((pr_upv (by decide)).trans ((pr_upv (by decide)).trans ((pr_upv (by decide)).trans ((pr_upv (by decide)).trans ((pr_upv (by decide)).trans ((pr_upv (by decide)).trans hnr)))))))))) dX4_add_98 ?_
  refine pr_iconst hA (0) dX4_add_101 (by decide) ?_
  refine pr_iastN (I' := (ws_put I w (pr_up (pr_up (pr_up (pr_up (pr_up (pr_up (pr_up (pr_up (pr_up (pr_up σ 19 nr f) 20 nr t) 21 nr u) 22 nr q) 23 nr (7 : Int32)) 24 nr (0 : Int32)) 25 nr now) 26 nr (0 : Int32)) 27 nr (0 : Int32)) 28 nr (0 : Int32)))) hA (wk_28 hw) (by omega) (by decide) (ws_up (by decide)) dX4_add_102 ?_
  refine pr_aload_n hA dX4_add_103 rfl ?_
  refine pr_getR hA f_X4_42 rfl (wk_18 hw) (wf_18_10 hw) dX4_add_104 ?_
  refine pr_aload_n hA dX4_add_107 rfl ?_
  refine pr_getE (v := (nI nr)) hA f_X4_65 rfl (wk_18 hw) ((ws_val (by decide)).trans ((pr_upv (by decide)).trans ((pr_upv (by decide)).trans ((pr_upv (by decide)).trans ((pr_upv (by decide)).trans ((pr_upv (by decide)).trans ((pr_upv (by decide)).trans ((pr_upv (by decide)).trans ((pr_upv (by decide)).trans ((pr_upv (by decide)).trans ((pr_upv (by decide)).trans hnr))))))))))) dX4_add_108 ?_
  refine pr_iconst hA ((-1)) dX4_add_111 (by decide) ?_
  refine pr_iastN (I' := (ws_put I w (pr_up (pr_up (pr_up (pr_up (pr_up (pr_up (pr_up (pr_up (pr_up (pr_up (pr_up σ 19 nr f) 20 nr t) 21 nr u) 22 nr q) 23 nr (7 : Int32)) 24 nr (0 : Int32)) 25 nr now) 26 nr (0 : Int32)) 27 nr (0 : Int32)) 28 nr (0 : Int32)) 29 nr ((-1) : Int32)))) hA (wk_29 hw) (by omega) (by decide) (ws_up (by decide)) dX4_add_112 ?_
  refine pr_aload_n hA dX4_add_113 rfl ?_
  refine pr_getR hA f_X4_45 rfl (wk_18 hw) (wf_18_11 hw) dX4_add_114 ?_
  refine pr_aload_n hA dX4_add_117 rfl ?_
  refine pr_getE (v := (nI nr)) hA f_X4_65 rfl (wk_18 hw) ((ws_val (by decide)).trans ((pr_upv (by decide)).trans ((pr_upv (by decide)).trans ((pr_upv (by decide)).trans ((pr_upv (by decide)).trans ((pr_upv (by decide)).trans ((pr_upv (by decide)).trans ((pr_upv (by decide)).trans ((pr_upv (by decide)).trans ((pr_upv (by decide)).trans ((pr_upv (by decide)).trans ((pr_upv (by decide)).trans hnr)))))))))))) dX4_add_118 ?_
  refine pr_iconst hA ((-1)) dX4_add_121 (by decide) ?_
  refine pr_iastN (I' := (ws_put I w (pr_up (pr_up (pr_up (pr_up (pr_up (pr_up (pr_up (pr_up (pr_up (pr_up (pr_up (pr_up σ 19 nr f) 20 nr t) 21 nr u) 22 nr q) 23 nr (7 : Int32)) 24 nr (0 : Int32)) 25 nr now) 26 nr (0 : Int32)) 27 nr (0 : Int32)) 28 nr (0 : Int32)) 29 nr ((-1) : Int32)) 30 nr ((-1) : Int32)))) hA (wk_30 hw) (by omega) (by decide) (ws_up (by decide)) dX4_add_122 ?_
  refine pr_aload_n hA dX4_add_123 rfl ?_
  refine pr_getR hA f_X4_48 rfl (wk_18 hw) (wf_18_12 hw) dX4_add_124 ?_
  refine pr_aload_n hA dX4_add_127 rfl ?_
  refine pr_getE (v := (nI nr)) hA f_X4_65 rfl (wk_18 hw) ((ws_val (by decide)).trans ((pr_upv (by decide)).trans ((pr_upv (by decide)).trans ((pr_upv (by decide)).trans ((pr_upv (by decide)).trans ((pr_upv (by decide)).trans ((pr_upv (by decide)).trans ((pr_upv (by decide)).trans ((pr_upv (by decide)).trans ((pr_upv (by decide)).trans ((pr_upv (by decide)).trans ((pr_upv (by decide)).trans ((pr_upv (by decide)).trans hnr))))))))))))) dX4_add_128 ?_
  refine pr_iconst hA ((-1)) dX4_add_131 (by decide) ?_
  refine pr_iastN (I' := (ws_put I w (pr_up (pr_up (pr_up (pr_up (pr_up (pr_up (pr_up (pr_up (pr_up (pr_up (pr_up (pr_up (pr_up σ 19 nr f) 20 nr t) 21 nr u) 22 nr q) 23 nr (7 : Int32)) 24 nr (0 : Int32)) 25 nr now) 26 nr (0 : Int32)) 27 nr (0 : Int32)) 28 nr (0 : Int32)) 29 nr ((-1) : Int32)) 30 nr ((-1) : Int32)) 31 nr ((-1) : Int32)))) hA (wk_31 hw) (by omega) (by decide) (ws_up (by decide)) dX4_add_132 ?_
  refine pr_aload_n hA dX4_add_133 rfl ?_
  refine pr_getR hA f_X4_51 rfl (wk_18 hw) (wf_18_13 hw) dX4_add_134 ?_
  refine pr_aload_n hA dX4_add_137 rfl ?_
  refine pr_getE (v := (nI nr)) hA f_X4_65 rfl (wk_18 hw) ((ws_val (by decide)).trans ((pr_upv (by decide)).trans ((pr_upv (by decide)).trans ((pr_upv (by decide)).trans ((pr_upv (by decide)).trans ((pr_upv (by decide)).trans ((pr_upv (by decide)).trans ((pr_upv (by decide)).trans ((pr_upv (by decide)).trans ((pr_upv (by decide)).trans ((pr_upv (by decide)).trans ((pr_upv (by decide)).trans ((pr_upv (by decide)).trans ((pr_upv (by decide)).trans hnr)))))))))))))) dX4_add_138 ?_
  refine pr_iconst hA (0) dX4_add_141 (by decide) ?_
  refine pr_iastN (I' := (ws_put I w (pr_up (pr_up (pr_up (pr_up (pr_up (pr_up (pr_up (pr_up (pr_up (pr_up (pr_up (pr_up (pr_up (pr_up σ 19 nr f) 20 nr t) 21 nr u) 22 nr q) 23 nr (7 : Int32)) 24 nr (0 : Int32)) 25 nr now) 26 nr (0 : Int32)) 27 nr (0 : Int32)) 28 nr (0 : Int32)) 29 nr ((-1) : Int32)) 30 nr ((-1) : Int32)) 31 nr ((-1) : Int32)) 32 nr (0 : Int32)))) hA (wk_32 hw) (by omega) (by decide) (ws_up (by decide)) dX4_add_142 ?_
  refine pr_aload_n hA dX4_add_143 rfl ?_
  refine pr_getR hA f_X4_54 rfl (wk_18 hw) (wf_18_14 hw) dX4_add_144 ?_
  refine pr_aload_n hA dX4_add_147 rfl ?_
  refine pr_getE (v := (nI nr)) hA f_X4_65 rfl (wk_18 hw) ((ws_val (by decide)).trans ((pr_upv (by decide)).trans ((pr_upv (by decide)).trans ((pr_upv (by decide)).trans ((pr_upv (by decide)).trans ((pr_upv (by decide)).trans ((pr_upv (by decide)).trans ((pr_upv (by decide)).trans ((pr_upv (by decide)).trans ((pr_upv (by decide)).trans ((pr_upv (by decide)).trans ((pr_upv (by decide)).trans ((pr_upv (by decide)).trans ((pr_upv (by decide)).trans ((pr_upv (by decide)).trans hnr))))))))))))))) dX4_add_148 ?_
  refine pr_iconst hA (0) dX4_add_151 (by decide) ?_
  refine pr_iastN (I' := (ws_put I w (pr_up (pr_up (pr_up (pr_up (pr_up (pr_up (pr_up (pr_up (pr_up (pr_up (pr_up (pr_up (pr_up (pr_up (pr_up σ 19 nr f) 20 nr t) 21 nr u) 22 nr q) 23 nr (7 : Int32)) 24 nr (0 : Int32)) 25 nr now) 26 nr (0 : Int32)) 27 nr (0 : Int32)) 28 nr (0 : Int32)) 29 nr ((-1) : Int32)) 30 nr ((-1) : Int32)) 31 nr ((-1) : Int32)) 32 nr (0 : Int32)) 33 nr (0 : Int32)))) hA (wk_33 hw) (by omega) (by decide) (ws_up (by decide)) dX4_add_152 ?_
  refine pr_aload_n hA dX4_add_153 rfl ?_
  refine pr_dup hA dX4_add_154 rfl ?_
  refine pr_getE (v := (nI nr)) hA f_X4_65 rfl (wk_18 hw) ((ws_val (by decide)).trans ((pr_upv (by decide)).trans ((pr_upv (by decide)).trans ((pr_upv (by decide)).trans ((pr_upv (by decide)).trans ((pr_upv (by decide)).trans ((pr_upv (by decide)).trans ((pr_upv (by decide)).trans ((pr_upv (by decide)).trans ((pr_upv (by decide)).trans ((pr_upv (by decide)).trans ((pr_upv (by decide)).trans ((pr_upv (by decide)).trans ((pr_upv (by decide)).trans ((pr_upv (by decide)).trans ((pr_upv (by decide)).trans hnr)))))))))))))))) dX4_add_155 ?_
  refine pr_iconst hA (1) dX4_add_158 (by decide) ?_
  refine pr_iaddE (v := nI (nr + 1)) hA (nI_1 _) dX4_add_159 ?_
  refine pr_putE (I' := (ws_put I w (pr_up (pr_up (pr_up (pr_up (pr_up (pr_up (pr_up (pr_up (pr_up (pr_up (pr_up (pr_up (pr_up (pr_up (pr_up (pr_up σ 19 nr f) 20 nr t) 21 nr u) 22 nr q) 23 nr (7 : Int32)) 24 nr (0 : Int32)) 25 nr now) 26 nr (0 : Int32)) 27 nr (0 : Int32)) 28 nr (0 : Int32)) 29 nr ((-1) : Int32)) 30 nr ((-1) : Int32)) 31 nr ((-1) : Int32)) 32 nr (0 : Int32)) 33 nr (0 : Int32)) 18 17 (nI (nr + 1))))) hA f_X4_65 rfl (wk_18 hw) (ws_up (by decide)) dX4_add_160 ?_
  exact pr_return hA rfl (Nat.zero_le _) (Nat.zero_le _) dX4_add_163 ⟨rfl, rfl, rfl, rfl⟩

theorem fr_rq_add {σ : pr_I} {nr : Nat} {f : Int32} {t : Int32} {u : Int32} {q : Int32} {now : Int32} {o : Nat} (hms : ∀ m ∈ ([18, 19, 20, 21, 22, 23, 24, 25, 26, 27, 28, 29, 30, 31, 32, 33] : List Nat), o ≠ m) : rq_add σ nr f t u q now o = σ o := by
  unfold rq_add
  simp only [List.mem_cons, List.not_mem_nil, or_false, forall_eq_or_imp, forall_eq] at hms
  rw [pr_up_ne (by omega), pr_up_ne (by omega), pr_up_ne (by omega), pr_up_ne (by omega), pr_up_ne (by omega), pr_up_ne (by omega), pr_up_ne (by omega), pr_up_ne (by omega), pr_up_ne (by omega), pr_up_ne (by omega), pr_up_ne (by omega), pr_up_ne (by omega), pr_up_ne (by omega), pr_up_ne (by omega), pr_up_ne (by omega), pr_up_ne (by omega)]

def rq_way_r (σ : pr_I) (r : Nat) : Int32 := (if (σ 23 r) = 0 then (1 : Int32) else (if (σ 23 r) = (1 : Int32) then (1 : Int32) else (if (σ 23 r) = (7 : Int32) then (1 : Int32) else (0 : Int32))))
set_option maxRecDepth 100000 in
set_option maxHeartbeats 4000000 in
theorem c_rq_way {g : pr_C} {l : Launch} (hl : l.stackTraces = false) {T : pr_T} {I : pr_I} {L : pr_L} {w : Nat} {σ : pr_I} {r : Nat} (hw : pr_W T w) (hr : r < 40) : pr_M g l 1 0 0 mX4_isOnItsWay [.ref (w + 18), .int (nI r)] T (ws_put I w σ) L (pr_R (some (.int (rq_way_r σ r))) T (ws_put I w σ) L) pr_no := by
  refine pr_ofG (by decide) rfl hl (Nat.le_of_ble_eq_true rfl) (fun X hA hX hXn hXt => ?_)
  subst hX
  show pr_G g X mX4_isOnItsWay.2.2.1 _ 0 0 0 [.ref (w + 18), .int (nI r)] [] T (ws_put I w σ) L
  refine pr_aload_n hA dX4_isOnItsWay_0 rfl ?_
  refine pr_getR hA f_X4_24 rfl (wk_18 hw) (wf_18_4 hw) dX4_isOnItsWay_1 ?_
  refine pr_iload_n hA dX4_isOnItsWay_4 rfl ?_
  refine pr_ialdN (v := (σ 23 r)) hA (wk_23 hw) (by omega) (by decide) (ws_val (by decide)) dX4_isOnItsWay_5 ?_
  refine pr_join (c := (σ 23 r) = 0) (J := 35) (st := []) (1 : Int32) (if (σ 23 r) = (1 : Int32) then (1 : Int32) else (if (σ 23 r) = (7 : Int32) then (1 : Int32) else (0 : Int32))) inferInstance (fun kt kf => ?_) ?_
  · refine pr_if_eq hA 30 dX4_isOnItsWay_6 (by decide) (fun c_6 => ?_) (fun c_6 => ?_)
    · refine pr_iconst hA (1) dX4_isOnItsWay_30 (by decide) ?_
      refine pr_goto hA 35 dX4_isOnItsWay_31 (by decide) ?_
      exact kt c_6
    · refine pr_aload_n hA dX4_isOnItsWay_9 rfl ?_
      refine pr_getR hA f_X4_24 rfl (wk_18 hw) (wf_18_4 hw) dX4_isOnItsWay_10 ?_
      refine pr_iload_n hA dX4_isOnItsWay_13 rfl ?_
      refine pr_ialdN (v := (σ 23 r)) hA (wk_23 hw) (by omega) (by decide) (ws_val (by decide)) dX4_isOnItsWay_14 ?_
      refine pr_iconst hA (1) dX4_isOnItsWay_15 (by decide) ?_
      refine pr_join (c := (σ 23 r) = (1 : Int32)) (J := 35) (st := []) (1 : Int32) (if (σ 23 r) = (7 : Int32) then (1 : Int32) else (0 : Int32)) inferInstance (fun kt kf => ?_) ?_
      · refine pr_icmp_eq hA 30 dX4_isOnItsWay_16 (by decide) (fun c_16 => ?_) (fun c_16 => ?_)
        · refine pr_iconst hA (1) dX4_isOnItsWay_30 (by decide) ?_
          refine pr_goto hA 35 dX4_isOnItsWay_31 (by decide) ?_
          exact kt c_16
        · refine pr_aload_n hA dX4_isOnItsWay_19 rfl ?_
          refine pr_getR hA f_X4_24 rfl (wk_18 hw) (wf_18_4 hw) dX4_isOnItsWay_20 ?_
          refine pr_iload_n hA dX4_isOnItsWay_23 rfl ?_
          refine pr_ialdN (v := (σ 23 r)) hA (wk_23 hw) (by omega) (by decide) (ws_val (by decide)) dX4_isOnItsWay_24 ?_
          refine pr_bipush hA (7) dX4_isOnItsWay_25 (by decide) ?_
          refine pr_join (c := (σ 23 r) = (7 : Int32)) (J := 35) (st := []) (1 : Int32) (0 : Int32) inferInstance (fun kt kf => ?_) ?_
          · refine pr_icmp_ne hA 34 dX4_isOnItsWay_27 (by decide) (fun c_27 => ?_) (fun c_27 => ?_)
            · refine pr_iconst hA (0) dX4_isOnItsWay_34 (by decide) ?_
              exact kf c_27
            · refine pr_iconst hA (1) dX4_isOnItsWay_30 (by decide) ?_
              refine pr_goto hA 35 dX4_isOnItsWay_31 (by decide) ?_
              exact kt c_27
          · exact kf c_16
      · exact kf c_6
  · exact pr_ireturn hA rfl (pr_nb (by (repeat' split) <;> simp)) (Nat.zero_le _) (Nat.zero_le _) dX4_isOnItsWay_35 ⟨rfl, rfl, rfl, rfl⟩

def rq_cnt_it4 (σ : pr_I) (nr : Nat) (s : Int32) : Nat → Int32
  | 0 => (0 : Int32)
  | k + 1 => ((rq_cnt_it4 σ nr s k) + (if (σ 23 k) = s then (1 : Int32) else (0 : Int32)))
def rq_cnt_r (σ : pr_I) (nr : Nat) (s : Int32) : Int32 := (rq_cnt_it4 σ nr s nr)
set_option maxRecDepth 100000 in
set_option maxHeartbeats 4000000 in
theorem c_rq_cnt {g : pr_C} {l : Launch} (hl : l.stackTraces = false) {T : pr_T} {I : pr_I} {L : pr_L} {w : Nat} {σ : pr_I} {nr : Nat} {s : Int32} (hw : pr_W T w) (hnr : σ 18 17 = nI nr) (hnr4 : nr ≤ 40) : pr_M g l 1 0 0 mX4_countWith [.ref (w + 18), .int s] T (ws_put I w σ) L (pr_R (some (.int (rq_cnt_r σ nr s))) T (ws_put I w σ) L) pr_no := by
  refine pr_ofG (by decide) rfl hl (Nat.le_of_ble_eq_true rfl) (fun X hA hX hXn hXt => ?_)
  subst hX
  show pr_G g X mX4_countWith.2.2.1 _ 0 0 0 [.ref (w + 18), .int s, .null, .null] [] T (ws_put I w σ) L
  refine pr_iconst hA (0) dX4_countWith_0 (by decide) ?_
  refine pr_istore_n (ls' := [_, _, _, _]) hA dX4_countWith_1 (by decide) rfl ?_
  refine pr_iconst hA (nI 0) dX4_countWith_2 (by decide) ?_
  refine pr_istore_n (ls' := [_, _, _, _]) hA dX4_countWith_3 (by decide) rfl ?_
  have lp4 : ∀ (j k : Nat), nr - k = j → k ≤ nr → pr_G g X mX4_countWith.2.2.1 (pr_MQ g X (pr_R (some (.int (rq_cnt_r σ nr s))) T (ws_put I w σ) L) pr_no 0 0) 0 0 4 [.ref (w + 18), .int s, .int (rq_cnt_it4 σ nr s k), .int (nI k)] [] T (ws_put I w σ) L := by
    intro j
    induction j using Nat.strongRecOn with | ind j ih4 =>
    intro k hj4 hk4
    refine pr_iload_n hA dX4_countWith_4 rfl ?_
    refine pr_aload_n hA dX4_countWith_5 rfl ?_
    refine pr_getE (v := (nI nr)) hA f_X4_65 rfl (wk_18 hw) ((ws_val (by decide)).trans hnr) dX4_countWith_6 ?_
    refine pr_icmp_ge hA 36 dX4_countWith_9 (by decide) (fun c_9 => ?_) (fun c_9 => ?_)
    · have n_9 : nr ≤ k := (nI_leI (by omega) (by omega)).mp c_9
      have hex : nr = k := by omega
      subst hex
      refine pr_iload_n hA dX4_countWith_36 rfl ?_
      exact pr_ireturn hA rfl rfl (Nat.zero_le _) (Nat.zero_le _) dX4_countWith_37 ⟨rfl, rfl, rfl, rfl⟩
    · have n_9 : ¬ nr ≤ k := fun q => c_9 ((nI_leI (by omega) (by omega)).mpr q)
      refine pr_iload_n hA dX4_countWith_12 rfl ?_
      refine pr_aload_n hA dX4_countWith_13 rfl ?_
      refine pr_getR hA f_X4_24 rfl (wk_18 hw) (wf_18_4 hw) dX4_countWith_14 ?_
      refine pr_iload_n hA dX4_countWith_17 rfl ?_
      refine pr_ialdN (v := (σ 23 k)) hA (wk_23 hw) (by omega) (by decide) (ws_val (by decide)) dX4_countWith_18 ?_
      refine pr_iload_n hA dX4_countWith_19 rfl ?_
      refine pr_join (c := (σ 23 k) = s) (J := 28) (st := [.int (rq_cnt_it4 σ nr s k)]) (1 : Int32) (0 : Int32) inferInstance (fun kt kf => ?_) ?_
      · refine pr_icmp_ne hA 27 dX4_countWith_20 (by decide) (fun c_20 => ?_) (fun c_20 => ?_)
        · refine pr_iconst hA (0) dX4_countWith_27 (by decide) ?_
          exact kf c_20
        · refine pr_iconst hA (1) dX4_countWith_23 (by decide) ?_
          refine pr_goto hA 28 dX4_countWith_24 (by decide) ?_
          exact kt c_20
      · refine pr_iadd hA dX4_countWith_28 ?_
        refine pr_istore_n (ls' := [_, _, _, _]) hA dX4_countWith_29 (by decide) rfl ?_
        refine pr_iinc (ls' := [_, _, _, _]) hA (nI (k + 1)) dX4_countWith_30 (by decide) rfl (nI_inc _) rfl ?_
        refine pr_goto hA 4 dX4_countWith_33 (by decide) ?_
        have hb := ih4 (nr - (k + 1)) (by omega) (k + 1) rfl (by omega)
        simp only [rq_cnt_it4] at hb
        exact hb
  exact (lp4 (nr - 0) 0 rfl (by omega))

def rq_tot_paid_it5 (σ : pr_I) (nr : Nat) : Nat → Int64
  | 0 => (0 : Int64)
  | k + 1 => ((rq_tot_paid_it5 σ nr k) + ((σ 26 k)).toInt64)
def rq_tot_paid_r (σ : pr_I) (nr : Nat) : Int64 := (rq_tot_paid_it5 σ nr nr)
set_option maxRecDepth 100000 in
set_option maxHeartbeats 4000000 in
theorem c_rq_tot_paid {g : pr_C} {l : Launch} (hl : l.stackTraces = false) {T : pr_T} {I : pr_I} {L : pr_L} {w : Nat} {σ : pr_I} {nr : Nat} (hw : pr_W T w) (hnr : σ 18 17 = nI nr) (hnr4 : nr ≤ 40) : pr_M g l 1 0 0 mX4_total [.ref (w + 18), .ref (w + 26)] T (ws_put I w σ) L (pr_R (some (.long (rq_tot_paid_r σ nr))) T (ws_put I w σ) L) pr_no := by
  refine pr_ofG (by decide) rfl hl (Nat.le_of_ble_eq_true rfl) (fun X hA hX hXn hXt => ?_)
  subst hX
  show pr_G g X mX4_total.2.2.1 _ 0 0 0 [.ref (w + 18), .ref (w + 26), .null, .null, .null] [] T (ws_put I w σ) L
  refine pr_lconst hA 0 dX4_total_0 (by decide) ?_
  refine pr_lstore_n (ls' := [_, _, _, _, _]) hA dX4_total_1 (by decide) rfl ?_
  refine pr_iconst hA (nI 0) dX4_total_2 (by decide) ?_
  refine pr_istore (ls' := [_, _, _, _, _]) hA dX4_total_3 (by decide) rfl ?_
  have lp5 : ∀ (j k : Nat), nr - k = j → k ≤ nr → pr_G g X mX4_total.2.2.1 (pr_MQ g X (pr_R (some (.long (rq_tot_paid_r σ nr))) T (ws_put I w σ) L) pr_no 0 0) 0 0 5 [.ref (w + 18), .ref (w + 26), .long (rq_tot_paid_it5 σ nr k), .null, .int (nI k)] [] T (ws_put I w σ) L := by
    intro j
    induction j using Nat.strongRecOn with | ind j ih5 =>
    intro k hj5 hk5
    refine pr_iload hA dX4_total_5 rfl ?_
    refine pr_aload_n hA dX4_total_7 rfl ?_
    refine pr_getE (v := (nI nr)) hA f_X4_65 rfl (wk_18 hw) ((ws_val (by decide)).trans hnr) dX4_total_8 ?_
    refine pr_icmp_ge hA 28 dX4_total_11 (by decide) (fun c_11 => ?_) (fun c_11 => ?_)
    · have n_11 : nr ≤ k := (nI_leI (by omega) (by omega)).mp c_11
      have hex : nr = k := by omega
      subst hex
      refine pr_lload_n hA dX4_total_28 rfl ?_
      exact pr_lreturn hA rfl (Nat.zero_le _) (Nat.zero_le _) dX4_total_29 ⟨rfl, rfl, rfl, rfl⟩
    · have n_11 : ¬ nr ≤ k := fun q => c_11 ((nI_leI (by omega) (by omega)).mpr q)
      refine pr_lload_n hA dX4_total_14 rfl ?_
      refine pr_aload_n hA dX4_total_15 rfl ?_
      refine pr_iload hA dX4_total_16 rfl ?_
      refine pr_ialdN (v := (σ 26 k)) hA (wk_26 hw) (by omega) (by decide) (ws_val (by decide)) dX4_total_18 ?_
      refine pr_i2l hA dX4_total_19 ?_
      refine pr_ladd hA dX4_total_20 ?_
      refine pr_lstore_n (ls' := [_, _, _, _, _]) hA dX4_total_21 (by decide) rfl ?_
      refine pr_iinc (ls' := [_, _, _, _, _]) hA (nI (k + 1)) dX4_total_22 (by decide) rfl (nI_inc _) rfl ?_
      refine pr_goto hA 5 dX4_total_25 (by decide) ?_
      have hb := ih5 (nr - (k + 1)) (by omega) (k + 1) rfl (by omega)
      simp only [rq_tot_paid_it5] at hb
      exact hb
  exact (lp5 (nr - 0) 0 rfl (by omega))

def rq_tot_ref_it5 (σ : pr_I) (nr : Nat) : Nat → Int64
  | 0 => (0 : Int64)
  | k + 1 => ((rq_tot_ref_it5 σ nr k) + ((σ 27 k)).toInt64)
def rq_tot_ref_r (σ : pr_I) (nr : Nat) : Int64 := (rq_tot_ref_it5 σ nr nr)
set_option maxRecDepth 100000 in
set_option maxHeartbeats 4000000 in
theorem c_rq_tot_ref {g : pr_C} {l : Launch} (hl : l.stackTraces = false) {T : pr_T} {I : pr_I} {L : pr_L} {w : Nat} {σ : pr_I} {nr : Nat} (hw : pr_W T w) (hnr : σ 18 17 = nI nr) (hnr4 : nr ≤ 40) : pr_M g l 1 0 0 mX4_total [.ref (w + 18), .ref (w + 27)] T (ws_put I w σ) L (pr_R (some (.long (rq_tot_ref_r σ nr))) T (ws_put I w σ) L) pr_no := by
  refine pr_ofG (by decide) rfl hl (Nat.le_of_ble_eq_true rfl) (fun X hA hX hXn hXt => ?_)
  subst hX
  show pr_G g X mX4_total.2.2.1 _ 0 0 0 [.ref (w + 18), .ref (w + 27), .null, .null, .null] [] T (ws_put I w σ) L
  refine pr_lconst hA 0 dX4_total_0 (by decide) ?_
  refine pr_lstore_n (ls' := [_, _, _, _, _]) hA dX4_total_1 (by decide) rfl ?_
  refine pr_iconst hA (nI 0) dX4_total_2 (by decide) ?_
  refine pr_istore (ls' := [_, _, _, _, _]) hA dX4_total_3 (by decide) rfl ?_
  have lp5 : ∀ (j k : Nat), nr - k = j → k ≤ nr → pr_G g X mX4_total.2.2.1 (pr_MQ g X (pr_R (some (.long (rq_tot_ref_r σ nr))) T (ws_put I w σ) L) pr_no 0 0) 0 0 5 [.ref (w + 18), .ref (w + 27), .long (rq_tot_ref_it5 σ nr k), .null, .int (nI k)] [] T (ws_put I w σ) L := by
    intro j
    induction j using Nat.strongRecOn with | ind j ih5 =>
    intro k hj5 hk5
    refine pr_iload hA dX4_total_5 rfl ?_
    refine pr_aload_n hA dX4_total_7 rfl ?_
    refine pr_getE (v := (nI nr)) hA f_X4_65 rfl (wk_18 hw) ((ws_val (by decide)).trans hnr) dX4_total_8 ?_
    refine pr_icmp_ge hA 28 dX4_total_11 (by decide) (fun c_11 => ?_) (fun c_11 => ?_)
    · have n_11 : nr ≤ k := (nI_leI (by omega) (by omega)).mp c_11
      have hex : nr = k := by omega
      subst hex
      refine pr_lload_n hA dX4_total_28 rfl ?_
      exact pr_lreturn hA rfl (Nat.zero_le _) (Nat.zero_le _) dX4_total_29 ⟨rfl, rfl, rfl, rfl⟩
    · have n_11 : ¬ nr ≤ k := fun q => c_11 ((nI_leI (by omega) (by omega)).mpr q)
      refine pr_lload_n hA dX4_total_14 rfl ?_
      refine pr_aload_n hA dX4_total_15 rfl ?_
      refine pr_iload hA dX4_total_16 rfl ?_
      refine pr_ialdN (v := (σ 27 k)) hA (wk_27 hw) (by omega) (by decide) (ws_val (by decide)) dX4_total_18 ?_
      refine pr_i2l hA dX4_total_19 ?_
      refine pr_ladd hA dX4_total_20 ?_
      refine pr_lstore_n (ls' := [_, _, _, _, _]) hA dX4_total_21 (by decide) rfl ?_
      refine pr_iinc (ls' := [_, _, _, _, _]) hA (nI (k + 1)) dX4_total_22 (by decide) rfl (nI_inc _) rfl ?_
      refine pr_goto hA 5 dX4_total_25 (by decide) ?_
      have hb := ih5 (nr - (k + 1)) (by omega) (k + 1) rfl (by omega)
      simp only [rq_tot_ref_it5] at hb
      exact hb
  exact (lp5 (nr - 0) 0 rfl (by omega))

