def lk_ux_r (σ : pr_I) (x : Int32) : Int32 := (if (((σ 1 7) >>> (x &&& 31)) &&& (1 : Int32)) = 0 then (0 : Int32) else (1 : Int32))
set_option maxRecDepth 100000 in
set_option maxHeartbeats 4000000 in
theorem c_lk_ux {g : pr_C} {l : Launch} (hl : l.stackTraces = false) {T : pr_T} {I : pr_I} {L : pr_L} {w : Nat} {σ : pr_I} {x : Int32} (hw : pr_W T w)  : pr_M g l 1 0 0 mX2_isUp [.ref (w + 1), .int x] T (ws_put I w σ) L (pr_R (some (.int (lk_ux_r σ x))) T (ws_put I w σ) L) pr_no := by
  refine pr_ofG (by decide) rfl hl (Nat.le_of_ble_eq_true rfl) (fun X hA hX hXn hXt => ?_)
  subst hX
  show pr_G g X mX2_isUp.2.2.1 _ 0 0 0 [.ref (w + 1), .int x] [] T (ws_put I w σ) L
  refine pr_aload_n hA dX2_isUp_0 rfl ?_
  refine pr_getE (v := (σ 1 7)) hA f_X2_33 rfl (wk_1 hw) (ws_val (by decide)) dX2_isUp_1 ?_
  refine pr_iload_n hA dX2_isUp_4 rfl ?_
  refine pr_ishr hA dX2_isUp_5 ?_
  refine pr_iconst hA (1) dX2_isUp_6 (by decide) ?_
  refine pr_iand hA dX2_isUp_7 ?_
  refine pr_join (c := (((σ 1 7) >>> (x &&& 31)) &&& (1 : Int32)) = 0) (J := 16) (st := []) (0 : Int32) (1 : Int32) inferInstance (fun kt kf => ?_) ?_
  · refine pr_if_eq hA 15 dX2_isUp_8 (by decide) (fun c_8 => ?_) (fun c_8 => ?_)
    · refine pr_iconst hA (0) dX2_isUp_15 (by decide) ?_
      exact kt c_8
    · refine pr_iconst hA (1) dX2_isUp_11 (by decide) ?_
      refine pr_goto hA 16 dX2_isUp_12 (by decide) ?_
      exact kf c_8
  · exact pr_ireturn hA rfl (pr_nb (by exact pr_nbj)) (Nat.zero_le _) (Nat.zero_le _) dX2_isUp_16 ⟨rfl, rfl, rfl, rfl⟩

def lk_ax_r (σ : pr_I) (x : Int32) : Int32 := ((σ 4 x.toNatClampNeg) - (σ 7 x.toNatClampNeg))
set_option maxRecDepth 100000 in
set_option maxHeartbeats 4000000 in
theorem c_lk_ax {g : pr_C} {l : Launch} (hl : l.stackTraces = false) {T : pr_T} {I : pr_I} {L : pr_L} {w : Nat} {σ : pr_I} {x : Int32} (hw : pr_W T w) (hx : vp_in x 24) : pr_M g l 1 0 0 mX2_available [.ref (w + 1), .int x] T (ws_put I w σ) L (pr_R (some (.int (lk_ax_r σ x))) T (ws_put I w σ) L) pr_no := by
  refine pr_ofG (by decide) rfl hl (Nat.le_of_ble_eq_true rfl) (fun X hA hX hXn hXt => ?_)
  subst hX
  show pr_G g X mX2_available.2.2.1 _ 0 0 0 [.ref (w + 1), .int x] [] T (ws_put I w σ) L
  refine pr_aload_n hA dX2_available_0 rfl ?_
  refine pr_getR hA f_X2_18 rfl (wk_1 hw) (wf_1_2 hw) dX2_available_1 ?_
  refine pr_iload_n hA dX2_available_4 rfl ?_
  refine pr_ialdE (v := (σ 4 x.toNatClampNeg)) hA (wk_4 hw) (by assumption) (ws_val (by decide)) dX2_available_5 ?_
  refine pr_aload_n hA dX2_available_6 rfl ?_
  refine pr_getR hA f_X2_27 rfl (wk_1 hw) (wf_1_5 hw) dX2_available_7 ?_
  refine pr_iload_n hA dX2_available_10 rfl ?_
  refine pr_ialdE (v := (σ 7 x.toNatClampNeg)) hA (wk_7 hw) (by assumption) (ws_val (by decide)) dX2_available_11 ?_
  refine pr_isub hA dX2_available_12 ?_
  exact pr_ireturn hA rfl rfl (Nat.zero_le _) (Nat.zero_le _) dX2_available_13 ⟨rfl, rfl, rfl, rfl⟩

def w_settle (σ : pr_I) (r : Nat) (s : Int32) : pr_I := (pr_up (pr_up σ 23 r s) 25 r ((-1) : Int32))
set_option maxRecDepth 100000 in
set_option maxHeartbeats 4000000 in
theorem c_w_settle {g : pr_C} {l : Launch} (hl : l.stackTraces = false) {T : pr_T} {I : pr_I} {L : pr_L} {w : Nat} {σ : pr_I} {r : Nat} {s : Int32} (hw : pr_W T w) (hr : r < 40) : pr_M g l 1 0 0 mX6_settle [.ref w, .int (nI r), .int s] T (ws_put I w σ) L (pr_R none T (ws_put I w (w_settle σ r s)) L) pr_no := by
  refine pr_ofG (by decide) rfl hl (Nat.le_of_ble_eq_true rfl) (fun X hA hX hXn hXt => ?_)
  subst hX
  show pr_G g X mX6_settle.2.2.1 _ 0 0 0 [.ref w, .int (nI r), .int s] [] T (ws_put I w σ) L
  refine pr_aload_n hA dX6_settle_0 rfl ?_
  refine pr_getR hA f_X6_28 rfl (wk_0 hw) (wf_0_2 hw) dX6_settle_1 ?_
  refine pr_getR hA f_X6_93 rfl (wk_18 hw) (wf_18_4 hw) dX6_settle_4 ?_
  refine pr_iload_n hA dX6_settle_7 rfl ?_
  refine pr_iload_n hA dX6_settle_8 rfl ?_
  refine pr_iastN (I' := (ws_put I w (pr_up σ 23 r s))) hA (wk_23 hw) (by omega) (by decide) (ws_up (by decide)) dX6_settle_9 ?_
  refine pr_aload_n hA dX6_settle_10 rfl ?_
  refine pr_getR hA f_X6_28 rfl (wk_0 hw) (wf_0_2 hw) dX6_settle_11 ?_
  refine pr_getR hA f_X6_90 rfl (wk_18 hw) (wf_18_6 hw) dX6_settle_14 ?_
  refine pr_iload_n hA dX6_settle_17 rfl ?_
  refine pr_iconst hA ((-1)) dX6_settle_18 (by decide) ?_
  refine pr_iastN (I' := (ws_put I w (pr_up (pr_up σ 23 r s) 25 r ((-1) : Int32)))) hA (wk_25 hw) (by omega) (by decide) (ws_up (by decide)) dX6_settle_19 ?_
  exact pr_return hA rfl (Nat.zero_le _) (Nat.zero_le _) dX6_settle_20 ⟨rfl, rfl, rfl, rfl⟩

theorem fr_w_settle {σ : pr_I} {r : Nat} {s : Int32} {o : Nat} (hms : ∀ m ∈ ([23, 25] : List Nat), o ≠ m) : w_settle σ r s o = σ o := by
  unfold w_settle
  simp only [List.mem_cons, List.not_mem_nil, or_false, forall_eq_or_imp, forall_eq] at hms
  rw [pr_up_ne (by omega), pr_up_ne (by omega)]

def w_rel (σ : pr_I) (t : Nat) (s : Int32) (f : Int32) : pr_I := (pr_up (pr_up (pr_up (pr_up σ 15 t s) 17 t ((σ 17 t) + f)) 27 ((σ 10 t).toNatClampNeg) ((σ 27 ((σ 10 t).toNatClampNeg)) + f)) 7 ((σ 11 t).toNatClampNeg) ((σ 7 ((σ 11 t).toNatClampNeg)) - (σ 12 t)))
set_option maxRecDepth 100000 in
set_option maxHeartbeats 4000000 in
theorem c_w_rel {g : pr_C} {l : Launch} (hl : l.stackTraces = false) {T : pr_T} {I : pr_I} {L : pr_L} {w : Nat} {σ : pr_I} {t : Nat} {s : Int32} {f : Int32} (hw : pr_W T w) (ht : t < 500) (h40 : vp_in (σ 10 t) 40) (h24 : vp_in (σ 11 t) 24) : pr_M g l 1 0 0 mX6_release [.ref w, .int (nI t), .int s, .int f] T (ws_put I w σ) L (pr_R none T (ws_put I w (w_rel σ t s f)) L) pr_no := by
  refine pr_ofG (by decide) rfl hl (Nat.le_of_ble_eq_true rfl) (fun X hA hX hXn hXt => ?_)
  subst hX
  show pr_G g X mX6_release.2.2.1 _ 0 0 0 [.ref w, .int (nI t), .int s, .int f] [] T (ws_put I w σ) L
  refine pr_aload_n hA dX6_release_0 rfl ?_
  refine pr_getR hA f_X6_21 rfl (wk_0 hw) (wf_0_1 hw) dX6_release_1 ?_
  refine pr_getR hA f_X6_174 rfl (wk_9 hw) (wf_9_5 hw) dX6_release_4 ?_
  refine pr_iload_n hA dX6_release_7 rfl ?_
  refine pr_iload_n hA dX6_release_8 rfl ?_
  refine pr_iastN (I' := (ws_put I w (pr_up σ 15 t s))) hA (wk_15 hw) (by omega) (by decide) (ws_up (by decide)) dX6_release_9 ?_
  refine pr_aload_n hA dX6_release_10 rfl ?_
  refine pr_getR hA f_X6_21 rfl (wk_0 hw) (wf_0_1 hw) dX6_release_11 ?_
  refine pr_getR hA f_X6_179 rfl (wk_9 hw) (wf_9_7 hw) dX6_release_14 ?_
  refine pr_iload_n hA dX6_release_17 rfl ?_
  refine pr_dup2 hA dX6_release_18 rfl rfl ?_
  refine pr_ialdN (v := (σ 17 t)) hA (wk_17 hw) (by omega) (by decide) ((ws_val (by decide)).trans (pr_upv (by decide))) dX6_release_19 ?_
  refine pr_iload_n hA dX6_release_20 rfl ?_
  refine pr_iadd hA dX6_release_21 ?_
  refine pr_iastN (I' := (ws_put I w (pr_up (pr_up σ 15 t s) 17 t ((σ 17 t) + f)))) hA (wk_17 hw) (by omega) (by decide) (ws_up (by decide)) dX6_release_22 ?_
  refine pr_aload_n hA dX6_release_23 rfl ?_
  refine pr_getR hA f_X6_28 rfl (wk_0 hw) (wf_0_2 hw) dX6_release_24 ?_
  refine pr_getR hA f_X6_217 rfl (wk_18 hw) (wf_18_8 hw) dX6_release_27 ?_
  refine pr_aload_n hA dX6_release_30 rfl ?_
  refine pr_getR hA f_X6_21 rfl (wk_0 hw) (wf_0_1 hw) dX6_release_31 ?_
  refine pr_getR hA f_X6_163 rfl (wk_9 hw) (wf_9_0 hw) dX6_release_34 ?_
  refine pr_iload_n hA dX6_release_37 rfl ?_
  refine pr_ialdN (v := (σ 10 t)) hA (wk_10 hw) (by omega) (by decide) ((ws_val (by decide)).trans ((pr_upv (by decide)).trans (pr_upv (by decide)))) dX6_release_38 ?_
  refine pr_dup2 hA dX6_release_39 rfl rfl ?_
  refine pr_ialdE (v := (σ 27 ((σ 10 t).toNatClampNeg))) hA (wk_27 hw) (by assumption) ((ws_val (by decide)).trans ((pr_upv (by decide)).trans (pr_upv (by decide)))) dX6_release_40 ?_
  refine pr_iload_n hA dX6_release_41 rfl ?_
  refine pr_iadd hA dX6_release_42 ?_
  refine pr_iastE (I' := (ws_put I w (pr_up (pr_up (pr_up σ 15 t s) 17 t ((σ 17 t) + f)) 27 ((σ 10 t).toNatClampNeg) ((σ 27 ((σ 10 t).toNatClampNeg)) + f)))) hA (wk_27 hw) (by assumption) (ws_up (by decide)) dX6_release_43 ?_
  refine pr_aload_n hA dX6_release_44 rfl ?_
  refine pr_getR hA f_X6_12 rfl (wk_0 hw) (wf_0_0 hw) dX6_release_45 ?_
  refine pr_getR hA f_X6_182 rfl (wk_1 hw) (wf_1_5 hw) dX6_release_48 ?_
  refine pr_aload_n hA dX6_release_51 rfl ?_
  refine pr_getR hA f_X6_21 rfl (wk_0 hw) (wf_0_1 hw) dX6_release_52 ?_
  refine pr_getR hA f_X6_166 rfl (wk_9 hw) (wf_9_1 hw) dX6_release_55 ?_
  refine pr_iload_n hA dX6_release_58 rfl ?_
  refine pr_ialdN (v := (σ 11 t)) hA (wk_11 hw) (by omega) (by decide) ((ws_val (by decide)).trans ((pr_upv (by decide)).trans ((pr_upv (by decide)).trans (pr_upv (by decide))))) dX6_release_59 ?_
  refine pr_dup2 hA dX6_release_60 rfl rfl ?_
  refine pr_ialdE (v := (σ 7 ((σ 11 t).toNatClampNeg))) hA (wk_7 hw) (by assumption) ((ws_val (by decide)).trans ((pr_upv (by decide)).trans ((pr_upv (by decide)).trans (pr_upv (by decide))))) dX6_release_61 ?_
  refine pr_aload_n hA dX6_release_62 rfl ?_
  refine pr_getR hA f_X6_21 rfl (wk_0 hw) (wf_0_1 hw) dX6_release_63 ?_
  refine pr_getR hA f_X6_167 rfl (wk_9 hw) (wf_9_2 hw) dX6_release_66 ?_
  refine pr_iload_n hA dX6_release_69 rfl ?_
  refine pr_ialdN (v := (σ 12 t)) hA (wk_12 hw) (by omega) (by decide) ((ws_val (by decide)).trans ((pr_upv (by decide)).trans ((pr_upv (by decide)).trans (pr_upv (by decide))))) dX6_release_70 ?_
  refine pr_isub hA dX6_release_71 ?_
  refine pr_iastE (I' := (ws_put I w (pr_up (pr_up (pr_up (pr_up σ 15 t s) 17 t ((σ 17 t) + f)) 27 ((σ 10 t).toNatClampNeg) ((σ 27 ((σ 10 t).toNatClampNeg)) + f)) 7 ((σ 11 t).toNatClampNeg) ((σ 7 ((σ 11 t).toNatClampNeg)) - (σ 12 t))))) hA (wk_7 hw) (by assumption) (ws_up (by decide)) dX6_release_72 ?_
  exact pr_return hA rfl (Nat.zero_le _) (Nat.zero_le _) dX6_release_73 ⟨rfl, rfl, rfl, rfl⟩

theorem fr_w_rel {σ : pr_I} {t : Nat} {s : Int32} {f : Int32} {o : Nat} (hms : ∀ m ∈ ([7, 15, 17, 27] : List Nat), o ≠ m) : w_rel σ t s f o = σ o := by
  unfold w_rel
  simp only [List.mem_cons, List.not_mem_nil, or_false, forall_eq_or_imp, forall_eq] at hms
  rw [pr_up_ne (by omega), pr_up_ne (by omega), pr_up_ne (by omega), pr_up_ne (by omega)]

def w_ra_it6 (σ : pr_I) (n : Nat) (r : Int32) (a : Int32) (b : Int32) (p : Int32) : Nat → pr_I × Int32
  | 0 => (σ, (0 : Int32))
  | k + 1 => (if (σ 10 k) = r then (if (tk_kp (w_ra_it6 σ n r a b p k).1 k) = 0 then ((w_ra_it6 σ n r a b p k).1, ((w_ra_it6 σ n r a b p k).2)) else ((w_rel (w_ra_it6 σ n r a b p k).1 k (3 : Int32) (((((if (1 : Int32) ≤ b then ((((σ 16 k)).toInt64 * (a).toInt64) / (b).toInt64) else (0 : Int64)) * (p).toInt64) / (100 : Int64))).toInt32)), (((w_ra_it6 σ n r a b p k).2) + ((((if (1 : Int32) ≤ b then ((((σ 16 k)).toInt64 * (a).toInt64) / (b).toInt64) else (0 : Int64)) * (p).toInt64) / (100 : Int64))).toInt32))) else ((w_ra_it6 σ n r a b p k).1, ((w_ra_it6 σ n r a b p k).2)))
theorem fr_w_ra_it6 {σ : pr_I} {n : Nat} {r : Int32} {a : Int32} {b : Int32} {p : Int32} {o : Nat} (hms : ∀ m ∈ ([7, 15, 17, 27] : List Nat), o ≠ m) : ∀ {k : Nat}, (w_ra_it6 σ n r a b p k).1 o = σ o := by
  simp only [List.mem_cons, List.not_mem_nil, or_false, forall_eq_or_imp, forall_eq] at hms
  intro k
  induction k with
  | zero =>
    show σ o = σ o
    rfl
  | succ k ih =>
    by_cases c_29 : (σ 10 k) = r
    · refine (congrFun (congrArg (fun z : pr_I × Int32 => z.1) (if_pos c_29)) o).trans ?_
      by_cases c_41 : (tk_kp (w_ra_it6 σ n r a b p k).1 k) = 0
      · refine (congrFun (congrArg (fun z : pr_I × Int32 => z.1) (if_pos c_41)) o).trans ?_
        show (w_ra_it6 σ n r a b p k).1 o = σ o
        rw [ih]
      · refine (congrFun (congrArg (fun z : pr_I × Int32 => z.1) (if_neg c_41)) o).trans ?_
        show (w_rel (w_ra_it6 σ n r a b p k).1 k (3 : Int32) (((((if (1 : Int32) ≤ b then ((((σ 16 k)).toInt64 * (a).toInt64) / (b).toInt64) else (0 : Int64)) * (p).toInt64) / (100 : Int64))).toInt32)) o = σ o
        rw [fr_w_rel (by simp only [List.mem_cons, List.not_mem_nil, or_false, forall_eq_or_imp, forall_eq]; omega), ih]
    · refine (congrFun (congrArg (fun z : pr_I × Int32 => z.1) (if_neg c_29)) o).trans ?_
      show (w_ra_it6 σ n r a b p k).1 o = σ o
      rw [ih]

def w_ra_r (σ : pr_I) (n : Nat) (r : Int32) (a : Int32) (b : Int32) (p : Int32) : Int32 := ((w_ra_it6 σ n r a b p n).2)
def w_ra (σ : pr_I) (n : Nat) (r : Int32) (a : Int32) (b : Int32) (p : Int32) : pr_I := (w_ra_it6 σ n r a b p n).1
set_option maxRecDepth 100000 in
set_option maxHeartbeats 4000000 in
theorem c_w_ra {g : pr_C} {l : Launch} (hl : l.stackTraces = false) {T : pr_T} {I : pr_I} {L : pr_L} {w : Nat} {σ : pr_I} {n : Nat} {r : Int32} {a : Int32} {b : Int32} {p : Int32} (hw : pr_W T w) (hn : σ 9 8 = nI n) (hn5 : n ≤ 500) (hB : ∀ t, t < n → vp_in (σ 10 t) 40 ∧ vp_in (σ 11 t) 24) : pr_M g l 3 0 0 mX6_releaseAll [.ref w, .int r, .int a, .int b, .int p] T (ws_put I w σ) L (pr_R (some (.int (w_ra_r σ n r a b p))) T (ws_put I w (w_ra σ n r a b p)) L) pr_no := by
  refine pr_ofG (by decide) rfl hl (Nat.le_of_ble_eq_true rfl) (fun X hA hX hXn hXt => ?_)
  subst hX
  show pr_G g X mX6_releaseAll.2.2.1 _ 0 0 0 [.ref w, .int r, .int a, .int b, .int p, .null, .null, .null, .null, .null] [] T (ws_put I w σ) L
  refine pr_iconst hA (0) dX6_releaseAll_0 (by decide) ?_
  refine pr_istore (ls' := [_, _, _, _, _, _, _, _, _, _]) hA dX6_releaseAll_1 (by decide) rfl ?_
  refine pr_iconst hA (nI 0) dX6_releaseAll_3 (by decide) ?_
  refine pr_istore (ls' := [_, _, _, _, _, _, _, _, _, _]) hA dX6_releaseAll_4 (by decide) rfl ?_
  have lp6 : ∀ (j k : Nat), n - k = j → k ≤ n → pr_G g X mX6_releaseAll.2.2.1 (pr_MQ g X (pr_R (some (.int (w_ra_r σ n r a b p))) T (ws_put I w (w_ra σ n r a b p)) L) pr_no 0 0) 0 0 6 [.ref w, .int r, .int a, .int b, .int p, .int ((w_ra_it6 σ n r a b p k).2), .int (nI k), .null, .null, .null] [] T (ws_put I w (w_ra_it6 σ n r a b p k).1) L := by
    intro j
    induction j using Nat.strongRecOn with | ind j ih6 =>
    intro k hj6 hk6
    refine pr_iload hA dX6_releaseAll_6 rfl ?_
    refine pr_aload_n hA dX6_releaseAll_8 rfl ?_
    refine pr_getR hA f_X6_21 rfl (wk_0 hw) (wf_0_1 hw) dX6_releaseAll_9 ?_
    refine pr_getE (v := (nI n)) hA f_X6_69 rfl (wk_9 hw) ((ws_val (by decide)).trans ((congrFun (fr_w_ra_it6 (by decide)) _).trans hn)) dX6_releaseAll_12 ?_
    refine pr_icmp_ge hA 107 dX6_releaseAll_15 (by decide) (fun c_15 => ?_) (fun c_15 => ?_)
    · have n_15 : n ≤ k := (nI_leI (by omega) (by omega)).mp c_15
      have hex : n = k := by omega
      subst hex
      refine pr_iload hA dX6_releaseAll_107 rfl ?_
      exact pr_ireturn hA rfl rfl (Nat.zero_le _) (Nat.zero_le _) dX6_releaseAll_109 ⟨rfl, rfl, rfl, rfl⟩
    · have n_15 : ¬ n ≤ k := fun q => c_15 ((nI_leI (by omega) (by omega)).mpr q)
      refine pr_aload_n hA dX6_releaseAll_18 rfl ?_
      refine pr_getR hA f_X6_21 rfl (wk_0 hw) (wf_0_1 hw) dX6_releaseAll_19 ?_
      refine pr_getR hA f_X6_163 rfl (wk_9 hw) (wf_9_0 hw) dX6_releaseAll_22 ?_
      refine pr_iload hA dX6_releaseAll_25 rfl ?_
      refine pr_ialdN (v := (σ 10 k)) hA (wk_10 hw) (by omega) (by decide) ((ws_val (by decide)).trans (congrFun (fr_w_ra_it6 (by decide)) _)) dX6_releaseAll_27 ?_
      refine pr_iload_n hA dX6_releaseAll_28 rfl ?_
      refine pr_icmp_ne hA 101 dX6_releaseAll_29 (by decide) (fun c_29 => ?_) (fun c_29 => ?_)
      · refine pr_iinc (ls' := [_, _, _, _, _, _, _, _, _, _]) hA (nI (k + 1)) dX6_releaseAll_101 (by decide) rfl (nI_inc _) rfl ?_
        refine pr_goto hA 6 dX6_releaseAll_104 (by decide) ?_
        have hb := ih6 (n - (k + 1)) (by omega) (k + 1) rfl (by omega)
        simp only [w_ra_it6, if_neg c_29] at hb
        exact hb
      · refine pr_aload_n hA dX6_releaseAll_32 rfl ?_
        refine pr_getR hA f_X6_21 rfl (wk_0 hw) (wf_0_1 hw) dX6_releaseAll_33 ?_
        refine pr_iload hA dX6_releaseAll_36 rfl ?_
        refine pr_callVi hA [.int (nI k)] (c_isPromised (pr_hl hA) hw (by omega)) v_X6_208 (wk_9 hw) (by decide) rfl rfl rfl (by decide) (Nat.zero_le _) (Nat.zero_le _) rfl (Nat.le_of_ble_eq_true rfl) dX6_releaseAll_38 ?_
        refine pr_if_eq hA 101 dX6_releaseAll_41 (by decide) (fun c_41 => ?_) (fun c_41 => ?_)
        · refine pr_iinc (ls' := [_, _, _, _, _, _, _, _, _, _]) hA (nI (k + 1)) dX6_releaseAll_101 (by decide) rfl (nI_inc _) rfl ?_
          refine pr_goto hA 6 dX6_releaseAll_104 (by decide) ?_
          have hb := ih6 (n - (k + 1)) (by omega) (k + 1) rfl (by omega)
          simp only [w_ra_it6, if_pos c_29, if_pos c_41] at hb
          exact hb
        · refine pr_iload_n hA dX6_releaseAll_44 rfl ?_
          refine pr_iconst hA (1) dX6_releaseAll_45 (by decide) ?_
          refine pr_joinL (c := (1 : Int32) ≤ b) (J := 70) (st := []) ((((σ 16 k)).toInt64 * (a).toInt64) / (b).toInt64) (0 : Int64) inferInstance (fun kt kf => ?_) ?_
          · refine pr_icmp_ge hA 53 dX6_releaseAll_46 (by decide) (fun c_46 => ?_) (fun c_46 => ?_)
            · refine pr_aload_n hA dX6_releaseAll_53 rfl ?_
              refine pr_getR hA f_X6_21 rfl (wk_0 hw) (wf_0_1 hw) dX6_releaseAll_54 ?_
              refine pr_getR hA f_X6_175 rfl (wk_9 hw) (wf_9_6 hw) dX6_releaseAll_57 ?_
              refine pr_iload hA dX6_releaseAll_60 rfl ?_
              refine pr_ialdN (v := (σ 16 k)) hA (wk_16 hw) (by omega) (by decide) ((ws_val (by decide)).trans (congrFun (fr_w_ra_it6 (by decide)) _)) dX6_releaseAll_62 ?_
              refine pr_i2l hA dX6_releaseAll_63 ?_
              refine pr_iload_n hA dX6_releaseAll_64 rfl ?_
              refine pr_i2l hA dX6_releaseAll_65 ?_
              refine pr_lmul hA dX6_releaseAll_66 ?_
              refine pr_iload_n hA dX6_releaseAll_67 rfl ?_
              refine pr_i2l hA dX6_releaseAll_68 ?_
              refine pr_ldiv hA dX6_releaseAll_69 (span_ne (by assumption)) ?_
              exact kt c_46
            · refine pr_lconst hA 0 dX6_releaseAll_49 (by decide) ?_
              refine pr_goto hA 70 dX6_releaseAll_50 (by decide) ?_
              exact kf c_46
          · refine pr_lstore (ls' := [_, _, _, _, _, _, _, _, _, _]) hA dX6_releaseAll_70 (by decide) rfl ?_
            refine pr_lload hA dX6_releaseAll_72 rfl ?_
            refine pr_iload hA dX6_releaseAll_74 rfl ?_
            refine pr_i2l hA dX6_releaseAll_76 ?_
            refine pr_lmul hA dX6_releaseAll_77 ?_
            refine pr_ldc2 hA kK_X6_211 dX6_releaseAll_78 ?_
            refine pr_ldiv hA dX6_releaseAll_81 (by decide) ?_
            refine pr_l2i hA dX6_releaseAll_82 ?_
            refine pr_istore (ls' := [_, _, _, _, _, _, _, _, _, _]) hA dX6_releaseAll_83 (by decide) rfl ?_
            refine pr_aload_n hA dX6_releaseAll_85 rfl ?_
            refine pr_iload hA dX6_releaseAll_86 rfl ?_
            refine pr_iconst hA (3) dX6_releaseAll_88 (by decide) ?_
            refine pr_iload hA dX6_releaseAll_89 rfl ?_
            refine pr_callVv hA [.int (nI k), .int (3 : Int32), .int (((((if (1 : Int32) ≤ b then ((((σ 16 k)).toInt64 * (a).toInt64) / (b).toInt64) else (0 : Int64)) * (p).toInt64) / (100 : Int64))).toInt32)] (c_w_rel (pr_hl hA) hw (by omega) (vin_eq (congrFun (fr_w_ra_it6 (by decide)) _) (hB k (by omega)).1) (vin_eq (congrFun (fr_w_ra_it6 (by decide)) _) (hB k (by omega)).2)) v_X6_213 (wk_0 hw) (by decide) rfl rfl rfl (by decide) (Nat.zero_le _) (Nat.zero_le _) rfl (Nat.le_of_ble_eq_true rfl) dX6_releaseAll_91 ?_
            refine pr_iload hA dX6_releaseAll_94 rfl ?_
            refine pr_iload hA dX6_releaseAll_96 rfl ?_
            refine pr_iadd hA dX6_releaseAll_98 ?_
            refine pr_istore (ls' := [_, _, _, _, _, _, _, _, _, _]) hA dX6_releaseAll_99 (by decide) rfl ?_
            refine pr_iinc (ls' := [_, _, _, _, _, _, _, _, _, _]) hA (nI (k + 1)) dX6_releaseAll_101 (by decide) rfl (nI_inc _) rfl ?_
            refine pr_goto hA 6 dX6_releaseAll_104 (by decide) ?_
            have hb := ih6 (n - (k + 1)) (by omega) (k + 1) rfl (by omega)
            simp only [w_ra_it6, if_pos c_29, if_neg c_41] at hb
            exact pr_lessL (ls' := [.ref w, .int r, .int a, .int b, .int p, .int (((w_ra_it6 σ n r a b p k).2) + ((((if (1 : Int32) ≤ b then ((((σ 16 k)).toInt64 * (a).toInt64) / (b).toInt64) else (0 : Int64)) * (p).toInt64) / (100 : Int64))).toInt32), .int (nI (k + 1)), .null, .null, .null]) ⟨.inr rfl, .inr rfl, .inr rfl, .inr rfl, .inr rfl, .inr rfl, .inr rfl, .inl rfl, .inl rfl, .inl rfl, trivial⟩ hb
  exact (lp6 (n - 0) 0 rfl (by omega))

theorem fr_w_ra {σ : pr_I} {n : Nat} {r : Int32} {a : Int32} {b : Int32} {p : Int32} {o : Nat} (hms : ∀ m ∈ ([7, 15, 17, 27] : List Nat), o ≠ m) : w_ra σ n r a b p o = σ o := by
  unfold w_ra
  simp only [List.mem_cons, List.not_mem_nil, or_false, forall_eq_or_imp, forall_eq] at hms
  rw [fr_w_ra_it6 (by simp only [List.mem_cons, List.not_mem_nil, or_false, forall_eq_or_imp, forall_eq]; omega)]

