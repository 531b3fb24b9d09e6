theorem nI_inc (k : Nat) : nI k + Int32.ofInt 1 = nI (k + 1) := nI_1 k
theorem nI_dec (k : Nat) : nI (k + 1) + Int32.ofInt (-1) = nI k := by
  rw [show Int32.ofInt (-1) = -1 from by decide, ← Int32.sub_eq_add_neg]; exact nI_pred k
theorem pr_nb {v : Int32} (h : v = 0 ∨ v = 1) : narrow .boolean (.int v) = .int v := by rcases h with rfl | rfl <;> rfl
theorem pr_nbi {c : Prop} [Decidable c] : (if c then (1 : Int32) else 0) = 0 ∨ (if c then (1 : Int32) else 0) = 1 := by by_cases c <;> simp [*]
theorem pr_nbj {c : Prop} [Decidable c] : (if c then (0 : Int32) else 1) = 0 ∨ (if c then (0 : Int32) else 1) = 1 := by by_cases c <;> simp [*]
/-! LINKS -/
/-- whether link k is up -/
def lk_up (σ : pr_I) (k : Nat) : Int32 := (σ 1 7 >>> (nI k &&& 31)) &&& 1
def lk_av (σ : pr_I) (k : Nat) : Int32 := σ 4 k - σ 7 k
/-- which of the first k links have these units -/
def lk_wu (σ : pr_I) (u : Int32) : Nat → Int32
  | 0 => 0
  | k + 1 => lk_wu σ u k ||| (if lk_av σ k < u then (0 : Int32) else (1 : Int32) <<< (nI k &&& 31))
set_option maxRecDepth 100000 in
set_option maxHeartbeats 4000000 in
theorem c_isUp {g : pr_C} {l : Launch} (hl : l.stackTraces = false) {T : pr_T} {I : pr_I} {L : pr_L} {w : Nat} {σ : pr_I} {k : Nat} (hw : pr_W T w) : pr_M g l 1 0 0 mX2_isUp [.ref (w + 1), .int (nI k)] T (ws_put I w σ) L (pr_R (some (.int (if lk_up σ k = 0 then 0 else 1))) T (ws_put I w σ) L) pr_no := by
  refine pr_ofG (by decide) rfl hl (Nat.le_of_ble_eq_true rfl) (fun X hA hX hXn hXt => ?_)
  subst hX
  show pr_G g X mX2_isUp.2.2.1 _ 0 0 0 [.ref (w + 1), .int (nI k)] [] T (ws_put I w σ) L
  refine pr_aload_n hA dX2_isUp_0 rfl ?_
  refine pr_getE (v := (σ 1 7)) hA f_X2_33 rfl (wk_1 hw) (ws_val (by decide)) dX2_isUp_1 ?_
  refine pr_iload_n hA dX2_isUp_4 rfl ?_
  refine pr_ishr hA dX2_isUp_5 ?_
  refine pr_iconst hA (1) dX2_isUp_6 (by decide) ?_
  refine pr_iand hA dX2_isUp_7 ?_
  refine pr_join (c := (((σ 1 7) >>> ((nI k) &&& 31)) &&& (1 : Int32)) = 0) (J := 16) (st := []) (0 : Int32) (1 : Int32) inferInstance (fun kt kf => ?_) ?_
  · refine pr_if_eq hA 15 dX2_isUp_8 (by decide) (fun c_8 => ?_) (fun c_8 => ?_)
    · refine pr_iconst hA (0) dX2_isUp_15 (by decide) ?_
      exact kt c_8
    · refine pr_iconst hA (1) dX2_isUp_11 (by decide) ?_
      refine pr_goto hA 16 dX2_isUp_12 (by decide) ?_
      exact kf c_8
  · exact pr_ireturn hA rfl (pr_nb (by exact pr_nbj)) (Nat.zero_le _) (Nat.zero_le _) dX2_isUp_16 ⟨rfl, rfl, rfl, rfl⟩

set_option maxRecDepth 100000 in
set_option maxHeartbeats 4000000 in
theorem c_available {g : pr_C} {l : Launch} (hl : l.stackTraces = false) {T : pr_T} {I : pr_I} {L : pr_L} {w : Nat} {σ : pr_I} {k : Nat} (hw : pr_W T w) (hk : k < 24) : pr_M g l 1 0 0 mX2_available [.ref (w + 1), .int (nI k)] T (ws_put I w σ) L (pr_R (some (.int (lk_av σ k))) T (ws_put I w σ) L) pr_no := by
  refine pr_ofG (by decide) rfl hl (Nat.le_of_ble_eq_true rfl) (fun X hA hX hXn hXt => ?_)
  subst hX
  show pr_G g X mX2_available.2.2.1 _ 0 0 0 [.ref (w + 1), .int (nI k)] [] T (ws_put I w σ) L
  refine pr_aload_n hA dX2_available_0 rfl ?_
  refine pr_getR hA f_X2_18 rfl (wk_1 hw) (wf_1_2 hw) dX2_available_1 ?_
  refine pr_iload_n hA dX2_available_4 rfl ?_
  refine pr_ialdN (v := (σ 4 k)) hA (wk_4 hw) (by omega) (by decide) (ws_val (by decide)) dX2_available_5 ?_
  refine pr_aload_n hA dX2_available_6 rfl ?_
  refine pr_getR hA f_X2_27 rfl (wk_1 hw) (wf_1_5 hw) dX2_available_7 ?_
  refine pr_iload_n hA dX2_available_10 rfl ?_
  refine pr_ialdN (v := (σ 7 k)) hA (wk_7 hw) (by omega) (by decide) (ws_val (by decide)) dX2_available_11 ?_
  refine pr_isub hA dX2_available_12 ?_
  exact pr_ireturn hA rfl rfl (Nat.zero_le _) (Nat.zero_le _) dX2_available_13 ⟨rfl, rfl, rfl, rfl⟩

set_option maxRecDepth 100000 in
set_option maxHeartbeats 4000000 in
theorem c_withUnits {g : pr_C} {l : Launch} (hl : l.stackTraces = false) {T : pr_T} {I : pr_I} {L : pr_L} {w : Nat} {σ : pr_I} {u : Int32} {n : Nat} (hw : pr_W T w) (hn : σ 1 8 = nI n) (hn24 : n ≤ 24) : pr_M g l 2 0 0 mX2_withUnits [.ref (w + 1), .int u] T (ws_put I w σ) L (pr_R (some (.int (lk_wu σ u n &&& σ 1 7))) T (ws_put I w σ) L) pr_no := by
  refine pr_ofG (by decide) rfl hl (Nat.le_of_ble_eq_true rfl) (fun X hA hX hXn hXt => ?_)
  subst hX
  show pr_G g X mX2_withUnits.2.2.1 _ 0 0 0 [.ref (w + 1), .int u, .null, .null] [] T (ws_put I w σ) L
  refine pr_iconst hA (0) dX2_withUnits_0 (by decide) ?_
  refine pr_istore_n (ls' := [_, _, _, _]) hA dX2_withUnits_1 (by decide) rfl ?_
  refine pr_iconst hA (nI 0) dX2_withUnits_2 (by decide) ?_
  refine pr_istore_n (ls' := [_, _, _, _]) hA dX2_withUnits_3 (by decide) rfl ?_
  have lp4 : ∀ (j k : Nat), n - k = j → k ≤ n → pr_G g X mX2_withUnits.2.2.1 (pr_MQ g X (pr_R (some (.int (lk_wu σ u n &&& σ 1 7))) T (ws_put I w σ) L) pr_no 0 0) 0 0 4 [.ref (w + 1), .int u, .int (lk_wu σ u k), .int (nI k)] [] T (ws_put I w σ) L := by
    intro j
    induction j using Nat.strongRecOn with | ind j ih =>
    intro k hj hkn
    refine pr_iload_n hA dX2_withUnits_4 rfl ?_
    refine pr_aload_n hA dX2_withUnits_5 rfl ?_
    refine pr_getE (v := (nI n)) hA f_X2_37 rfl (wk_1 hw) ((ws_val (by decide)).trans hn) dX2_withUnits_6 ?_
    refine pr_icmp_ge hA 37 dX2_withUnits_9 (by decide) (fun c_9 => ?_) (fun c_9 => ?_)
    · have n_9 : n ≤ k := (nI_leI (by omega) (by omega)).mp c_9
      have e : k = n := by omega
      subst e
      refine pr_iload_n hA dX2_withUnits_37 rfl ?_
      refine pr_aload_n hA dX2_withUnits_38 rfl ?_
      refine pr_getE (v := (σ 1 7)) hA f_X2_33 rfl (wk_1 hw) (ws_val (by decide)) dX2_withUnits_39 ?_
      refine pr_iand hA dX2_withUnits_42 ?_
      exact pr_ireturn hA rfl rfl (Nat.zero_le _) (Nat.zero_le _) dX2_withUnits_43 ⟨rfl, rfl, rfl, rfl⟩
    · have n_9 : ¬ n ≤ k := fun q => c_9 ((nI_leI (by omega) (by omega)).mpr q)
      refine pr_iload_n hA dX2_withUnits_12 rfl ?_
      refine pr_aload_n hA dX2_withUnits_13 rfl ?_
      refine pr_iload_n hA dX2_withUnits_14 rfl ?_
      refine pr_callVi hA [.int (nI k)] (c_available (pr_hl hA) hw (by omega)) v_X2_40 (wk_1 hw) (by decide) rfl rfl rfl (by decide) (Nat.zero_le _) (Nat.zero_le _) rfl (Nat.le_of_ble_eq_true rfl) dX2_withUnits_15 ?_
      refine pr_iload_n hA dX2_withUnits_18 rfl ?_
      refine pr_join (c := (lk_av σ k) < u) (J := 29) (st := [.int (lk_wu σ u k)]) (0 : Int32) ((1 : Int32) <<< ((nI k) &&& 31)) inferInstance (fun kt kf => ?_) ?_
      · refine pr_icmp_lt hA 28 dX2_withUnits_19 (by decide) (fun c_19 => ?_) (fun c_19 => ?_)
        · refine pr_iconst hA (0) dX2_withUnits_28 (by decide) ?_
          exact kt c_19
        · refine pr_iconst hA (1) dX2_withUnits_22 (by decide) ?_
          refine pr_iload_n hA dX2_withUnits_23 rfl ?_
          refine pr_ishl hA dX2_withUnits_24 ?_
          refine pr_goto hA 29 dX2_withUnits_25 (by decide) ?_
          exact kf c_19
      · refine pr_ior hA dX2_withUnits_29 ?_
        refine pr_istore_n (ls' := [_, _, _, _]) hA dX2_withUnits_30 (by decide) rfl ?_
        refine pr_iinc (ls' := [_, _, _, _]) hA (nI (k + 1)) dX2_withUnits_31 (by decide) rfl (nI_inc _) rfl ?_
        refine pr_goto hA 4 dX2_withUnits_34 (by decide) ?_
        exact ih (n - (k + 1)) (by omega) (k + 1) rfl (by omega)
  exact lp4 n 0 rfl (by omega)

