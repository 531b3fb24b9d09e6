/-! THE LAW'S isLink() AND whole() -/
/-- the sum of the units of the first k tickets of a list -/
def uS (σ : pr_I) (tq : Nat → Nat) : Nat → Int32
  | 0 => 0
  | k + 1 => uS σ tq k + σ 12 (tq k)
def IsL (σ : pr_I) (l : Nat) : Prop := ∃ (m : Nat) (tq : Nat → Nat), m ≤ 500 ∧ (∀ k, k < m → tq k < tkn σ ∧ fx_ticketOn_r σ l (nI k) = nI (tq k)) ∧ fx_ticketOn_r σ l (nI m) = -1 ∧ uS σ tq m = σ 7 l ∧ ¬ lk_av σ l < 0
set_option maxRecDepth 100000 in
set_option maxHeartbeats 400000 in
theorem c_isLink {g : pr_C} {l : Launch} (hl : l.stackTraces = false) {T : pr_T} {I : pr_I} {L : pr_L} {x k : Nat} {σ : pr_I} (hS : lSt x T) (hm : hW I (x + 1) σ) (hI : wI σ) (hk : k < lkn σ) (F : IsL σ k) : pr_M g l 9 0 0 mL_isLink [.ref x, .int (nI k)] T I L (pr_R (some (.int 1)) T I L) pr_no := by
  refine pr_ofG (by decide) rfl hl (Nat.le_of_ble_eq_true rfl) (fun X hA hX hXn hXt => ?_)
  subst hX
  show pr_G g X mL_isLink.2.2.1 _ 0 0 0 [.ref x, .int (nI k), .null, .null] [] T I L
  obtain ⟨m, tq, m5, F1, F2, F3, F4⟩ := F
  have h5 := wI_n5 hI
  have lp : ∀ (n j : Nat), m - j = n → j ≤ m → pr_G g X mL_isLink.2.2.1 (pr_MQ g X (pr_R (some (.int 1)) T I L) pr_no 0 0) 0 0 4 [.ref x, .int (nI k), .int (uS σ tq (j)), .int (nI (j))] [] T I L := by
    intro n
    induction n with
    | zero =>
      intro j hn hj
      have he : j = m := by omega
      subst he
      refine pr_aload_n hA dL_isLink_4 rfl ?_
      refine pr_iload_n hA dL_isLink_5 rfl ?_
      refine pr_iload_n hA dL_isLink_6 rfl ?_
      refine pr_callVi hA [.int (nI k), .int (nI (j))] (o_ticketOn (pr_hl hA) hS hm hI (i := nI j) hk) v_L_119 hS.k (by decide) rfl rfl rfl (by decide) (by omega) (by omega) rfl (Nat.le_of_ble_eq_true rfl) dL_isLink_7 ?_
      refine pr_topE (z := -1) F2 ?_
      refine pr_if_lt hA 33 dL_isLink_10 (by decide) (fun _ => ?_) (fun c_10 => absurd (by decide) c_10)
      refine pr_iload_n hA dL_isLink_33 rfl ?_
      refine pr_aload_n hA dL_isLink_34 rfl ?_
      refine pr_iload_n hA dL_isLink_35 rfl ?_
      refine pr_iconst hA (nI 5) dL_isLink_36 (by decide) ?_
      refine pr_callVi hA [.int (nI k), .int (nI 5)] (o_linkValue (pr_hl hA) hS hm hI hk (c := 5) (by decide)) v_L_110 hS.k (by decide) rfl rfl rfl (by decide) (by omega) (by omega) rfl (Nat.le_of_ble_eq_true rfl) dL_isLink_37 ?_
      refine pr_topE (z := σ 7 k) rfl ?_
      refine pr_icmp_ne hA 75 dL_isLink_40 (by decide) (fun c_40 => absurd F3 c_40) (fun _ => ?_)
      refine pr_aload_n hA dL_isLink_43 rfl ?_
      refine pr_iload_n hA dL_isLink_44 rfl ?_
      refine pr_bipush hA (nI 6) dL_isLink_45 (by decide) ?_
      refine pr_callVi hA [.int (nI k), .int (nI 6)] (o_linkValue (pr_hl hA) hS hm hI hk (c := 6) (by decide)) v_L_110 hS.k (by decide) rfl rfl rfl (by decide) (by omega) (by omega) rfl (Nat.le_of_ble_eq_true rfl) dL_isLink_47 ?_
      refine pr_topE (z := lk_av σ k) rfl ?_
      refine pr_aload_n hA dL_isLink_50 rfl ?_
      refine pr_iload_n hA dL_isLink_51 rfl ?_
      refine pr_iconst hA (nI 2) dL_isLink_52 (by decide) ?_
      refine pr_callVi hA [.int (nI k), .int (nI 2)] (o_linkValue (pr_hl hA) hS hm hI hk (c := 2) (by decide)) v_L_110 hS.k (by decide) rfl rfl rfl (by decide) (by omega) (by omega) rfl (Nat.le_of_ble_eq_true rfl) dL_isLink_53 ?_
      refine pr_topE (z := σ 4 k) rfl ?_
      refine pr_iload_n hA dL_isLink_56 rfl ?_
      refine pr_isub hA dL_isLink_57 ?_
      refine pr_icmp_ne hA 75 dL_isLink_58 (by decide) (fun c_58 => absurd (by rw [F3]; rfl) c_58) (fun _ => ?_)
      refine pr_aload_n hA dL_isLink_61 rfl ?_
      refine pr_iload_n hA dL_isLink_62 rfl ?_
      refine pr_bipush hA (nI 6) dL_isLink_63 (by decide) ?_
      refine pr_callVi hA [.int (nI k), .int (nI 6)] (o_linkValue (pr_hl hA) hS hm hI hk (c := 6) (by decide)) v_L_110 hS.k (by decide) rfl rfl rfl (by decide) (by omega) (by omega) rfl (Nat.le_of_ble_eq_true rfl) dL_isLink_65 ?_
      refine pr_topE (z := lk_av σ k) rfl ?_
      refine pr_if_lt hA 75 dL_isLink_68 (by decide) (fun c_68 => absurd c_68 F4) (fun _ => ?_)
      refine pr_iconst hA ((1 : Int32)) dL_isLink_71 (by decide) ?_
      refine pr_goto hA 76 dL_isLink_72 (by decide) ?_
      exact pr_ireturn hA rfl rfl (Nat.zero_le _) (Nat.zero_le _) dL_isLink_76 ⟨rfl, rfl, rfl, rfl⟩
    | succ n ih =>
      intro j hn hj
      obtain ⟨f1, f2⟩ := F1 j (by omega)
      refine pr_aload_n hA dL_isLink_4 rfl ?_
      refine pr_iload_n hA dL_isLink_5 rfl ?_
      refine pr_iload_n hA dL_isLink_6 rfl ?_
      refine pr_callVi hA [.int (nI k), .int (nI (j))] (o_ticketOn (pr_hl hA) hS hm hI (i := nI j) hk) v_L_119 hS.k (by decide) rfl rfl rfl (by decide) (by omega) (by omega) rfl (Nat.le_of_ble_eq_true rfl) dL_isLink_7 ?_
      refine pr_topE (z := nI (tq j)) f2 ?_
      refine pr_if_lt hA 33 dL_isLink_10 (by decide) (fun c_10 => absurd c_10 (fun z => by have := (nI_ltI (b := 0) (by omega) (by decide)).mp z; omega)) (fun _ => ?_)
      refine pr_iload_n hA dL_isLink_13 rfl ?_
      refine pr_aload_n hA dL_isLink_14 rfl ?_
      refine pr_aload_n hA dL_isLink_15 rfl ?_
      refine pr_iload_n hA dL_isLink_16 rfl ?_
      refine pr_iload_n hA dL_isLink_17 rfl ?_
      refine pr_callVi hA [.int (nI k), .int (nI (j))] (o_ticketOn (pr_hl hA) hS hm hI (i := nI j) hk) v_L_119 hS.k (by decide) rfl rfl rfl (by decide) (by omega) (by omega) rfl (Nat.le_of_ble_eq_true rfl) dL_isLink_18 ?_
      refine pr_topE (z := nI (tq j)) f2 ?_
      refine pr_iconst hA (nI 2) dL_isLink_21 (by decide) ?_
      refine pr_callVi hA [.int (nI (tq j)), .int (nI 2)] (o_ticketValue (pr_hl hA) hS hm hI f1 (c := 2) (by decide)) v_L_101 hS.k (by decide) rfl rfl rfl (by decide) (by omega) (by omega) rfl (Nat.le_of_ble_eq_true rfl) dL_isLink_22 ?_
      refine pr_topE (z := σ 12 (tq j)) rfl ?_
      refine pr_iadd hA dL_isLink_25 ?_
      refine pr_topE (z := uS σ tq (j + 1)) rfl ?_
      refine pr_istore_n (ls' := [_, _, _, _]) hA dL_isLink_26 (by decide) rfl ?_
      refine pr_iinc (ls' := [_, _, _, _]) hA (nI ((j) + 1)) dL_isLink_27 (by decide) rfl (nI_inc _) rfl ?_
      refine pr_goto hA 4 dL_isLink_30 (by decide) ?_
      exact ih (j + 1) (by omega) (by omega)
  refine pr_iconst hA (nI 0) dL_isLink_0 (by decide) ?_
  refine pr_istore_n (ls' := [_, _, _, _]) hA dL_isLink_1 (by decide) rfl ?_
  refine pr_iconst hA (nI 0) dL_isLink_2 (by decide) ?_
  refine pr_istore_n (ls' := [_, _, _, _]) hA dL_isLink_3 (by decide) rfl ?_
  exact lp m 0 (by omega) (Nat.zero_le _)
/-- the number that whole() makes of a world -/
noncomputable def wh (σ : pr_I) : Nat → Int64
  | 0 => (σ 0 7).toInt64 + (7 : Int64) * (nI (tkn σ)).toInt64 + (3 : Int64) * w_rev_r σ
  | r + 1 => (31 : Int64) * wh σ r + (σ 23 r).toInt64 + (9 : Int64) * (σ 25 r).toInt64
set_option maxRecDepth 100000 in
set_option maxHeartbeats 400000 in
theorem c_whole {g : pr_C} {l : Launch} (hl : l.stackTraces = false) {T : pr_T} {I : pr_I} {L : pr_L} {x : Nat} {σ : pr_I} (hS : lSt x T) (hm : hW I (x + 1) σ) (hI : wI σ) : pr_M g l 9 0 0 mL_whole [.ref x] T I L (pr_R (some (.long (wh σ (rqn σ)))) T I L) pr_no := by
  refine pr_ofG (by decide) rfl hl (Nat.le_of_ble_eq_true rfl) (fun X hA hX hXn hXt => ?_)
  subst hX
  show pr_G g X mL_whole.2.2.1 _ 0 0 0 [.ref x, .null, .null, .null] [] T I L
  have h4 := wI_nr4 hI
  have lp : ∀ (n r : Nat), rqn σ - r = n → r ≤ rqn σ → pr_G g X mL_whole.2.2.1 (pr_MQ g X (pr_R (some (.long (wh σ (rqn σ)))) T I L) pr_no 0 0) 0 0 27 [.ref x, .long (wh σ (r)), .null, .int (nI (r))] [] T I L := by
    intro n
    induction n with
    | zero =>
      intro r hn hr9
      have he : r = rqn σ := by omega
      rw [he]
      refine pr_iload_n hA dL_whole_27 rfl ?_
      refine pr_aload_n hA dL_whole_28 rfl ?_
      refine pr_callVi hA [] (o_requestCount (pr_hl hA) hS hm hI) v_L_69 hS.k (by decide) rfl rfl rfl (by decide) (by omega) (by omega) rfl (Nat.le_of_ble_eq_true rfl) dL_whole_29 ?_
      refine pr_icmp_ge hA 68 dL_whole_32 (by decide) (fun _ => ?_) (fun c_32 => absurd ((nI_leI (by omega) (by omega)).mpr (Nat.le_refl _)) c_32)
      refine pr_lload_n hA dL_whole_68 rfl ?_
      exact pr_lreturn hA rfl (Nat.zero_le _) (Nat.zero_le _) dL_whole_69 ⟨rfl, rfl, rfl, rfl⟩
    | succ n ih =>
      intro r hn hr9
      have hr : r < rqn σ := by omega
      refine pr_iload_n hA dL_whole_27 rfl ?_
      refine pr_aload_n hA dL_whole_28 rfl ?_
      refine pr_callVi hA [] (o_requestCount (pr_hl hA) hS hm hI) v_L_69 hS.k (by decide) rfl rfl rfl (by decide) (by omega) (by omega) rfl (Nat.le_of_ble_eq_true rfl) dL_whole_29 ?_
      refine pr_icmp_ge hA 68 dL_whole_32 (by decide) (fun c_32 => absurd c_32 (fun q9 => by have := (nI_leI (by omega) (by omega)).mp q9; omega)) (fun _ => ?_)
      refine pr_ldc2 (v := 31) hA (List.mem_filter.mpr ⟨by decide +kernel, by decide +kernel⟩) dL_whole_35 ?_
      refine pr_lload_n hA dL_whole_38 rfl ?_
      refine pr_lmul hA dL_whole_39 ?_
      refine pr_aload_n hA dL_whole_40 rfl ?_
      refine pr_iload_n hA dL_whole_41 rfl ?_
      refine pr_iconst hA (nI 4) dL_whole_42 (by decide) ?_
      refine pr_callVi hA [.int (nI (r)), .int (nI 4)] (o_requestValue (pr_hl hA) hS hm hI hr (c := 4) (by decide)) v_L_95 hS.k (by decide) rfl rfl rfl (by decide) (by omega) (by omega) rfl (Nat.le_of_ble_eq_true rfl) dL_whole_43 ?_
      refine pr_topE (z := σ 23 r) rfl ?_
      refine pr_i2l hA dL_whole_46 ?_
      refine pr_ladd hA dL_whole_47 ?_
      refine pr_ldc2 (v := 9) hA (List.mem_filter.mpr ⟨by decide +kernel, by decide +kernel⟩) dL_whole_48 ?_
      refine pr_aload_n hA dL_whole_51 rfl ?_
      refine pr_iload_n hA dL_whole_52 rfl ?_
      refine pr_bipush hA (nI 6) dL_whole_53 (by decide) ?_
      refine pr_callVi hA [.int (nI (r)), .int (nI 6)] (o_requestValue (pr_hl hA) hS hm hI hr (c := 6) (by decide)) v_L_95 hS.k (by decide) rfl rfl rfl (by decide) (by omega) (by omega) rfl (Nat.le_of_ble_eq_true rfl) dL_whole_55 ?_
      refine pr_topE (z := σ 25 r) rfl ?_
      refine pr_i2l hA dL_whole_58 ?_
      refine pr_lmul hA dL_whole_59 ?_
      refine pr_ladd hA dL_whole_60 ?_
      refine pr_topL (z := wh σ (r + 1)) rfl ?_
      refine pr_lstore_n (ls' := [_, _, _, _]) hA dL_whole_61 (by decide) rfl ?_
      refine pr_iinc (ls' := [_, _, _, _]) hA (nI ((r) + 1)) dL_whole_62 (by decide) rfl (nI_inc _) rfl ?_
      refine pr_goto hA 27 dL_whole_65 (by decide) ?_
      exact ih (r + 1) (by omega) (by omega)
  refine pr_aload_n hA dL_whole_0 rfl ?_
  refine pr_callVi hA [] (o_time (pr_hl hA) hS hm hI) v_L_113 hS.k (by decide) rfl rfl rfl (by decide) (by omega) (by omega) rfl (Nat.le_of_ble_eq_true rfl) dL_whole_1 ?_
  refine pr_i2l hA dL_whole_4 ?_
  refine pr_ldc2 (v := 7) hA (List.mem_filter.mpr ⟨by decide +kernel, by decide +kernel⟩) dL_whole_5 ?_
  refine pr_aload_n hA dL_whole_8 rfl ?_
  refine pr_callVi hA [] (o_ticketCount (pr_hl hA) hS hm hI) v_L_98 hS.k (by decide) rfl rfl rfl (by decide) (by omega) (by omega) rfl (Nat.le_of_ble_eq_true rfl) dL_whole_9 ?_
  refine pr_i2l hA dL_whole_12 ?_
  refine pr_lmul hA dL_whole_13 ?_
  refine pr_ladd hA dL_whole_14 ?_
  refine pr_ldc2 (v := 3) hA (List.mem_filter.mpr ⟨by decide +kernel, by decide +kernel⟩) dL_whole_15 ?_
  refine pr_aload_n hA dL_whole_18 rfl ?_
  refine pr_callVl hA [] (o_revenue (pr_hl hA) hS hm hI) v_L_151 hS.k (by decide) rfl rfl rfl (by decide) (by omega) (by omega) rfl (Nat.le_of_ble_eq_true rfl) dL_whole_19 ?_
  refine pr_lmul hA dL_whole_22 ?_
  refine pr_ladd hA dL_whole_23 ?_
  refine pr_topL (z := wh σ 0) rfl ?_
  refine pr_lstore_n (ls' := [_, _, _, _]) hA dL_whole_24 (by decide) rfl ?_
  refine pr_iconst hA (nI 0) dL_whole_25 (by decide) ?_
  refine pr_istore_n (ls' := [_, _, _, _]) hA dL_whole_26 (by decide) rfl ?_
  exact lp (rqn σ) 0 (by omega) (Nat.zero_le _)
