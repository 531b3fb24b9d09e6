theorem mI_m_ts {σ : pr_I} (hI : mI σ) (htr : ∀ k, k < mrn σ → m_tr_ok (m_ts_it110 σ k) k) : mI (m_ts σ) := mI_m_ts_it110 hI htr _ (Nat.le_refl _)
def m_ts_ok (σ : pr_I) : Prop := ∀ k, k < mrn σ → m_tr_ok (m_ts_it110 σ k) k
theorem mR_pos {c B : Nat} (h : mR c = some B) : 0 < B ∧ B < 2 ^ 31 := by
  unfold mR at h
  (repeat' split at h) <;> first | (cases h; decide) | cases h
theorem mI.up0 {σ : pr_I} {o k : Nat} (h : mI σ) (hp : ∀ B, mB o k = some B → 0 < B ∧ B < 2 ^ 31) : mI (pr_up σ o k 0) := fun o' k' B q => by
  unfold pr_up
  by_cases c : o' = o ∧ k' = k
  · rw [if_pos c]
    rw [c.1, c.2] at q
    exact nI_vin (k := 0) (hp B q).1 (hp B q).2
  · rw [if_neg c]; exact h o' k' B q
noncomputable def m_mk_it12 (σ : pr_I) (s : Int32) (t : Int32) (u : Int32) (q : Int32) : Nat → pr_I
  | 0 => σ
  | k + 1 => (pr_up (m_mk_it12 σ s t u q k) 1 (264 + 28 * (mrn σ) + k) (0 : Int32))
theorem fr_m_mk_it12 {σ : pr_I} {s : Int32} {t : Int32} {u : Int32} {q : Int32} {o : Nat} (hms : ∀ m ∈ ([1] : List Nat), o ≠ m) : ∀ {k : Nat}, (m_mk_it12 σ s t u q k) o = σ o := by
  simp only [List.mem_cons, List.not_mem_nil, or_false, forall_eq_or_imp, forall_eq] at hms
  intro k
  induction k with
  | zero =>
    show σ o = σ o
    rfl
  | succ k ih =>
    show (pr_up (m_mk_it12 σ s t u q k) 1 (264 + 28 * (mrn σ) + k) (0 : Int32)) o = σ o
    rw [pr_up_ne (by omega), ih]
theorem fw_m_mk_it12 {σ : pr_I} {s : Int32} {t : Int32} {u : Int32} {q : Int32} {j0 : Nat} (hj : j0 < 12) (hmw : ∀ m ∈ ([] : List Nat), j0 ≠ m) : ∀ {k : Nat}, (m_mk_it12 σ s t u q k) 1 j0 = σ 1 j0 := by
  intro k
  induction k with
  | zero => rfl
  | succ k ih =>
    show (pr_up (m_mk_it12 σ s t u q k) 1 (264 + 28 * (mrn σ) + k) (0 : Int32)) 1 j0 = σ 1 j0
    exact ((pr_upk (by omega)).trans ih)

noncomputable def m_mk_r (σ : pr_I) (s : Int32) (t : Int32) (u : Int32) (q : Int32) : Int32 := (nI (mrn σ))
noncomputable def m_mk (σ : pr_I) (s : Int32) (t : Int32) (u : Int32) (q : Int32) : pr_I := (m_tr (m_at (pr_up (pr_up (pr_up (pr_up (pr_up (pr_up (pr_up (pr_up (m_mk_it12 σ s t u q 28) 1 (264 + 28 * (mrn σ) + 0) s) 1 (264 + 28 * (mrn σ) + 1) t) 1 (264 + 28 * (mrn σ) + 2) u) 1 (264 + 28 * (mrn σ) + 3) q) 1 (264 + 28 * (mrn σ) + 10) ((-1) : Int32)) 1 (264 + 28 * (mrn σ) + 11) ((-1) : Int32)) 1 (264 + 28 * (mrn σ) + 12) ((-1) : Int32)) 1 8 (nI ((mrn σ) + 1))) (mrn σ)) (mrn σ))
theorem mI_m_mk_it12 {σ : pr_I} {s t u q : Int32} (hI : mI σ) (hr40 : mrn σ < 40) : ∀ k, k ≤ 28 → mI (m_mk_it12 σ s t u q k)
  | 0, _ => hI
  | k + 1, hk => mI.up0 (mI_m_mk_it12 hI hr40 k (by omega)) (fun B q => mR_pos ((mW_req (k := mrn σ) (c := k) hr40 (by omega)).symm.trans q))
set_option maxRecDepth 100000 in
set_option maxHeartbeats 400000 in
theorem c_m_mk {g : pr_C} {l : Launch} (hl : l.stackTraces = false) {T : pr_T} {I : pr_I} {L : pr_L} {m : Nat} {σ : pr_I} {s : Int32} {t : Int32} {u : Int32} {q : Int32} (hm : pr_Mo T m) (hI : mI σ) (hs : vp_in s 12) (ht : vp_in t 12) (hr40 : mrn σ < 40) (hat : m_at_ok (pr_up (pr_up (pr_up (pr_up (pr_up (pr_up (pr_up (pr_up (m_mk_it12 σ s t u q 28) 1 (264 + 28 * (mrn σ) + 0) s) 1 (264 + 28 * (mrn σ) + 1) t) 1 (264 + 28 * (mrn σ) + 2) u) 1 (264 + 28 * (mrn σ) + 3) q) 1 (264 + 28 * (mrn σ) + 10) ((-1) : Int32)) 1 (264 + 28 * (mrn σ) + 11) ((-1) : Int32)) 1 (264 + 28 * (mrn σ) + 12) ((-1) : Int32)) 1 8 (nI ((mrn σ) + 1))) (mrn σ)) (htr : m_tr_ok (m_at (pr_up (pr_up (pr_up (pr_up (pr_up (pr_up (pr_up (pr_up (m_mk_it12 σ s t u q 28) 1 (264 + 28 * (mrn σ) + 0) s) 1 (264 + 28 * (mrn σ) + 1) t) 1 (264 + 28 * (mrn σ) + 2) u) 1 (264 + 28 * (mrn σ) + 3) q) 1 (264 + 28 * (mrn σ) + 10) ((-1) : Int32)) 1 (264 + 28 * (mrn σ) + 11) ((-1) : Int32)) 1 (264 + 28 * (mrn σ) + 12) ((-1) : Int32)) 1 8 (nI ((mrn σ) + 1))) (mrn σ)) (mrn σ)) : pr_M g l 8 0 0 mX8_makes [.ref m, .int s, .int t, .int u, .int q] T (rg_put I m 16 σ) L (pr_R (some (.int (m_mk_r σ s t u q))) T (rg_put I m 16 (m_mk σ s t u q)) L) pr_no := by
  refine pr_ofG (by decide) rfl hl (Nat.le_of_ble_eq_true rfl) (fun X hA hX hXn hXt => ?_)
  subst hX
  show pr_G g X mX8_makes.2.2.1 _ 0 0 0 [.ref m, .int s, .int t, .int u, .int q, .null, .null] [] T (rg_put I m 16 σ) L
  have hn5 := mI_n5 hI
  have hr4 := mI_nr4 hI
  have hl24 := mI_nl24 hI
  have hn12 := mI_nn12 hI
  refine pr_aload_n hA dX8_makes_0 rfl ?_
  refine pr_getR hA f_X8_9 rfl (mo_k0 hm) (mo_f0_0 hm) dX8_makes_1 ?_
  refine pr_bipush hA (nI 8) dX8_makes_4 (by decide) ?_
  refine pr_ialdM (v := (nI (mrn σ))) hA (mo_k1 hm) (by omega) (by omega) ((rg_val (by decide)).trans (mI_nr hI)) dX8_makes_6 ?_
  refine pr_istore (ls' := [_, _, _, _, _, _, _]) hA dX8_makes_7 (by decide) rfl ?_
  refine pr_iconst hA (nI 0) dX8_makes_9 (by decide) ?_
  refine pr_istore (ls' := [_, _, _, _, _, _, _]) hA dX8_makes_10 (by decide) rfl ?_
  have lp12 : ∀ (j k : Nat), 28 - k = j → k ≤ 28 → pr_G g X mX8_makes.2.2.1 (pr_MQ g X (pr_R (some (.int (m_mk_r σ s t u q))) T (rg_put I m 16 (m_mk σ s t u q)) L) pr_no 0 0) 0 0 12 [.ref m, .int s, .int t, .int u, .int q, .int (nI (mrn σ)), .int (nI k)] [] T (rg_put I m 16 (m_mk_it12 σ s t u q k)) L := by
    intro j
    induction j using Nat.strongRecOn with | ind j ih12 =>
    intro k hj12 hk12
    refine pr_iload hA dX8_makes_12 rfl ?_
    refine pr_bipush hA (nI 28) dX8_makes_14 (by decide) ?_
    refine pr_icmp_ge hA 34 dX8_makes_16 (by decide) (fun c_16 => ?_) (fun c_16 => ?_)
    · have n_16 : 28 ≤ k := (nI_leI (by omega) (by omega)).mp c_16
      have hex : 28 = k := by omega
      subst hex
      refine pr_aload_n hA dX8_makes_34 rfl ?_
      refine pr_iload hA dX8_makes_35 rfl ?_
      refine pr_iconst hA (0) dX8_makes_37 (by decide) ?_
      refine pr_iload_n hA dX8_makes_38 rfl ?_
      refine pr_callVv hA [.int (nI (mrn σ)), .int (0 : Int32), .int s] (c_m_putReq (m := m) (k := (mrn σ)) (c := 0) (σ := (m_mk_it12 σ s t u q 28)) (pr_hl hA) hm (by omega) (by omega)) v_X8_238 (mo_k0 hm) (by decide) rfl rfl rfl (by decide) (Nat.zero_le _) (Nat.zero_le _) rfl (Nat.le_of_ble_eq_true rfl) dX8_makes_39 ?_
      refine pr_aload_n hA dX8_makes_42 rfl ?_
      refine pr_iload hA dX8_makes_43 rfl ?_
      refine pr_iconst hA (1) dX8_makes_45 (by decide) ?_
      refine pr_iload_n hA dX8_makes_46 rfl ?_
      refine pr_callVv hA [.int (nI (mrn σ)), .int (1 : Int32), .int t] (c_m_putReq (m := m) (k := (mrn σ)) (c := 1) (σ := (pr_up (m_mk_it12 σ s t u q 28) 1 (264 + 28 * (mrn σ) + 0) s)) (pr_hl hA) hm (by omega) (by omega)) v_X8_238 (mo_k0 hm) (by decide) rfl rfl rfl (by decide) (Nat.zero_le _) (Nat.zero_le _) rfl (Nat.le_of_ble_eq_true rfl) dX8_makes_47 ?_
      refine pr_aload_n hA dX8_makes_50 rfl ?_
      refine pr_iload hA dX8_makes_51 rfl ?_
      refine pr_iconst hA (2) dX8_makes_53 (by decide) ?_
      refine pr_iload_n hA dX8_makes_54 rfl ?_
      refine pr_callVv hA [.int (nI (mrn σ)), .int (2 : Int32), .int u] (c_m_putReq (m := m) (k := (mrn σ)) (c := 2) (σ := (pr_up (pr_up (m_mk_it12 σ s t u q 28) 1 (264 + 28 * (mrn σ) + 0) s) 1 (264 + 28 * (mrn σ) + 1) t)) (pr_hl hA) hm (by omega) (by omega)) v_X8_238 (mo_k0 hm) (by decide) rfl rfl rfl (by decide) (Nat.zero_le _) (Nat.zero_le _) rfl (Nat.le_of_ble_eq_true rfl) dX8_makes_55 ?_
      refine pr_aload_n hA dX8_makes_58 rfl ?_
      refine pr_iload hA dX8_makes_59 rfl ?_
      refine pr_iconst hA (3) dX8_makes_61 (by decide) ?_
      refine pr_iload hA dX8_makes_62 rfl ?_
      refine pr_callVv hA [.int (nI (mrn σ)), .int (3 : Int32), .int q] (c_m_putReq (m := m) (k := (mrn σ)) (c := 3) (σ := (pr_up (pr_up (pr_up (m_mk_it12 σ s t u q 28) 1 (264 + 28 * (mrn σ) + 0) s) 1 (264 + 28 * (mrn σ) + 1) t) 1 (264 + 28 * (mrn σ) + 2) u)) (pr_hl hA) hm (by omega) (by omega)) v_X8_238 (mo_k0 hm) (by decide) rfl rfl rfl (by decide) (Nat.zero_le _) (Nat.zero_le _) rfl (Nat.le_of_ble_eq_true rfl) dX8_makes_64 ?_
      refine pr_aload_n hA dX8_makes_67 rfl ?_
      refine pr_iload hA dX8_makes_68 rfl ?_
      refine pr_bipush hA (10) dX8_makes_70 (by decide) ?_
      refine pr_iconst hA ((-1)) dX8_makes_72 (by decide) ?_
      refine pr_callVv hA [.int (nI (mrn σ)), .int (10 : Int32), .int ((-1) : Int32)] (c_m_putReq (m := m) (k := (mrn σ)) (c := 10) (σ := (pr_up (pr_up (pr_up (pr_up (m_mk_it12 σ s t u q 28) 1 (264 + 28 * (mrn σ) + 0) s) 1 (264 + 28 * (mrn σ) + 1) t) 1 (264 + 28 * (mrn σ) + 2) u) 1 (264 + 28 * (mrn σ) + 3) q)) (pr_hl hA) hm (by omega) (by omega)) v_X8_238 (mo_k0 hm) (by decide) rfl rfl rfl (by decide) (Nat.zero_le _) (Nat.zero_le _) rfl (Nat.le_of_ble_eq_true rfl) dX8_makes_73 ?_
      refine pr_aload_n hA dX8_makes_76 rfl ?_
      refine pr_iload hA dX8_makes_77 rfl ?_
      refine pr_bipush hA (11) dX8_makes_79 (by decide) ?_
      refine pr_iconst hA ((-1)) dX8_makes_81 (by decide) ?_
      refine pr_callVv hA [.int (nI (mrn σ)), .int (11 : Int32), .int ((-1) : Int32)] (c_m_putReq (m := m) (k := (mrn σ)) (c := 11) (σ := (pr_up (pr_up (pr_up (pr_up (pr_up (m_mk_it12 σ s t u q 28) 1 (264 + 28 * (mrn σ) + 0) s) 1 (264 + 28 * (mrn σ) + 1) t) 1 (264 + 28 * (mrn σ) + 2) u) 1 (264 + 28 * (mrn σ) + 3) q) 1 (264 + 28 * (mrn σ) + 10) ((-1) : Int32))) (pr_hl hA) hm (by omega) (by omega)) v_X8_238 (mo_k0 hm) (by decide) rfl rfl rfl (by decide) (Nat.zero_le _) (Nat.zero_le _) rfl (Nat.le_of_ble_eq_true rfl) dX8_makes_82 ?_
      refine pr_aload_n hA dX8_makes_85 rfl ?_
      refine pr_iload hA dX8_makes_86 rfl ?_
      refine pr_bipush hA (12) dX8_makes_88 (by decide) ?_
      refine pr_iconst hA ((-1)) dX8_makes_90 (by decide) ?_
      refine pr_callVv hA [.int (nI (mrn σ)), .int (12 : Int32), .int ((-1) : Int32)] (c_m_putReq (m := m) (k := (mrn σ)) (c := 12) (σ := (pr_up (pr_up (pr_up (pr_up (pr_up (pr_up (m_mk_it12 σ s t u q 28) 1 (264 + 28 * (mrn σ) + 0) s) 1 (264 + 28 * (mrn σ) + 1) t) 1 (264 + 28 * (mrn σ) + 2) u) 1 (264 + 28 * (mrn σ) + 3) q) 1 (264 + 28 * (mrn σ) + 10) ((-1) : Int32)) 1 (264 + 28 * (mrn σ) + 11) ((-1) : Int32))) (pr_hl hA) hm (by omega) (by omega)) v_X8_238 (mo_k0 hm) (by decide) rfl rfl rfl (by decide) (Nat.zero_le _) (Nat.zero_le _) rfl (Nat.le_of_ble_eq_true rfl) dX8_makes_91 ?_
      refine pr_aload_n hA dX8_makes_94 rfl ?_
      refine pr_getR hA f_X8_9 rfl (mo_k0 hm) (mo_f0_0 hm) dX8_makes_95 ?_
      refine pr_bipush hA (nI 8) dX8_makes_98 (by decide) ?_
      refine pr_dup2 hA dX8_makes_100 rfl rfl ?_
      refine pr_ialdM (v := (nI (mrn σ))) hA (mo_k1 hm) (by omega) (by omega) ((rg_val (by decide)).trans ((pr_upk (by omega)).trans ((pr_upk (by omega)).trans ((pr_upk (by omega)).trans ((pr_upk (by omega)).trans ((pr_upk (by omega)).trans ((pr_upk (by omega)).trans ((pr_upk (by omega)).trans ((fw_m_mk_it12 (by decide) (by decide)).trans (mI_nr hI)))))))))) dX8_makes_101 ?_
      refine pr_iconst hA (1) dX8_makes_102 (by decide) ?_
      refine pr_iaddE (v := nI ((mrn σ) + 1)) hA (nI_1 _) dX8_makes_103 ?_
      refine pr_iastM (I' := (rg_put I m 16 (pr_up (pr_up (pr_up (pr_up (pr_up (pr_up (pr_up (pr_up (m_mk_it12 σ s t u q 28) 1 (264 + 28 * (mrn σ) + 0) s) 1 (264 + 28 * (mrn σ) + 1) t) 1 (264 + 28 * (mrn σ) + 2) u) 1 (264 + 28 * (mrn σ) + 3) q) 1 (264 + 28 * (mrn σ) + 10) ((-1) : Int32)) 1 (264 + 28 * (mrn σ) + 11) ((-1) : Int32)) 1 (264 + 28 * (mrn σ) + 12) ((-1) : Int32)) 1 8 (nI ((mrn σ) + 1))))) hA (mo_k1 hm) (by omega) (by omega) (rg_up (by decide)) dX8_makes_104 ?_
      refine pr_aload_n hA dX8_makes_105 rfl ?_
      refine pr_iload hA dX8_makes_106 rfl ?_
      have hv108 : mI (pr_up (pr_up (pr_up (pr_up (pr_up (pr_up (pr_up (pr_up (m_mk_it12 σ s t u q 28) 1 (264 + 28 * (mrn σ) + 0) s) 1 (264 + 28 * (mrn σ) + 1) t) 1 (264 + 28 * (mrn σ) + 2) u) 1 (264 + 28 * (mrn σ) + 3) q) 1 (264 + 28 * (mrn σ) + 10) ((-1) : Int32)) 1 (264 + 28 * (mrn σ) + 11) ((-1) : Int32)) 1 (264 + 28 * (mrn σ) + 12) ((-1) : Int32)) 1 8 (nI ((mrn σ) + 1))) := (mI.upv (mI.upn (mI.upn (mI.upn (mI.upn (mI.upn (mI.upv (mI.upv (mI_m_mk_it12 hI hr40 28 (by omega)) ((mW_req (k := (mrn σ)) (c := 0) (by omega) (by decide)).trans rfl) hs) ((mW_req (k := (mrn σ)) (c := 1) (by omega) (by decide)).trans rfl) ht) ((mW_req (k := (mrn σ)) (c := 2) (by omega) (by decide)).trans rfl)) ((mW_req (k := (mrn σ)) (c := 3) (by omega) (by decide)).trans rfl)) ((mW_req (k := (mrn σ)) (c := 10) (by omega) (by decide)).trans rfl)) ((mW_req (k := (mrn σ)) (c := 11) (by omega) (by decide)).trans rfl)) ((mW_req (k := (mrn σ)) (c := 12) (by omega) (by decide)).trans rfl)) rfl (nI_vin (by omega) (by decide)))
      refine pr_callVv hA [.int (nI (mrn σ))] (c_m_at (m := m) (σ := (pr_up (pr_up (pr_up (pr_up (pr_up (pr_up (pr_up (pr_up (m_mk_it12 σ s t u q 28) 1 (264 + 28 * (mrn σ) + 0) s) 1 (264 + 28 * (mrn σ) + 1) t) 1 (264 + 28 * (mrn σ) + 2) u) 1 (264 + 28 * (mrn σ) + 3) q) 1 (264 + 28 * (mrn σ) + 10) ((-1) : Int32)) 1 (264 + 28 * (mrn σ) + 11) ((-1) : Int32)) 1 (264 + 28 * (mrn σ) + 12) ((-1) : Int32)) 1 8 (nI ((mrn σ) + 1)))) (r := (mrn σ)) (pr_hl hA) hm hv108 (by first | omega | assumption) hat.1 hat.2.1 hat.2.2.1) v_X8_260 (mo_k0 hm) (by decide) rfl rfl rfl (by decide) (Nat.zero_le _) (Nat.zero_le _) rfl (Nat.le_of_ble_eq_true rfl) dX8_makes_108 ?_
      refine pr_aload_n hA dX8_makes_111 rfl ?_
      refine pr_iload hA dX8_makes_112 rfl ?_
      have hv114 : mI (m_at (pr_up (pr_up (pr_up (pr_up (pr_up (pr_up (pr_up (pr_up (m_mk_it12 σ s t u q 28) 1 (264 + 28 * (mrn σ) + 0) s) 1 (264 + 28 * (mrn σ) + 1) t) 1 (264 + 28 * (mrn σ) + 2) u) 1 (264 + 28 * (mrn σ) + 3) q) 1 (264 + 28 * (mrn σ) + 10) ((-1) : Int32)) 1 (264 + 28 * (mrn σ) + 11) ((-1) : Int32)) 1 (264 + 28 * (mrn σ) + 12) ((-1) : Int32)) 1 8 (nI ((mrn σ) + 1))) (mrn σ)) := (mI_m_at (σ := (pr_up (pr_up (pr_up (pr_up (pr_up (pr_up (pr_up (pr_up (m_mk_it12 σ s t u q 28) 1 (264 + 28 * (mrn σ) + 0) s) 1 (264 + 28 * (mrn σ) + 1) t) 1 (264 + 28 * (mrn σ) + 2) u) 1 (264 + 28 * (mrn σ) + 3) q) 1 (264 + 28 * (mrn σ) + 10) ((-1) : Int32)) 1 (264 + 28 * (mrn σ) + 11) ((-1) : Int32)) 1 (264 + 28 * (mrn σ) + 12) ((-1) : Int32)) 1 8 (nI ((mrn σ) + 1)))) (by omega) hat.2.2.2 (mI.upv (mI.upn (mI.upn (mI.upn (mI.upn (mI.upn (mI.upv (mI.upv (mI_m_mk_it12 hI hr40 28 (by omega)) ((mW_req (k := (mrn σ)) (c := 0) (by omega) (by decide)).trans rfl) hs) ((mW_req (k := (mrn σ)) (c := 1) (by omega) (by decide)).trans rfl) ht) ((mW_req (k := (mrn σ)) (c := 2) (by omega) (by decide)).trans rfl)) ((mW_req (k := (mrn σ)) (c := 3) (by omega) (by decide)).trans rfl)) ((mW_req (k := (mrn σ)) (c := 10) (by omega) (by decide)).trans rfl)) ((mW_req (k := (mrn σ)) (c := 11) (by omega) (by decide)).trans rfl)) ((mW_req (k := (mrn σ)) (c := 12) (by omega) (by decide)).trans rfl)) rfl (nI_vin (by omega) (by decide))))
      refine pr_callVv hA [.int (nI (mrn σ))] (c_m_tr (m := m) (σ := (m_at (pr_up (pr_up (pr_up (pr_up (pr_up (pr_up (pr_up (pr_up (m_mk_it12 σ s t u q 28) 1 (264 + 28 * (mrn σ) + 0) s) 1 (264 + 28 * (mrn σ) + 1) t) 1 (264 + 28 * (mrn σ) + 2) u) 1 (264 + 28 * (mrn σ) + 3) q) 1 (264 + 28 * (mrn σ) + 10) ((-1) : Int32)) 1 (264 + 28 * (mrn σ) + 11) ((-1) : Int32)) 1 (264 + 28 * (mrn σ) + 12) ((-1) : Int32)) 1 8 (nI ((mrn σ) + 1))) (mrn σ))) (r := (mrn σ)) (pr_hl hA) hm hv114 (by first | omega | assumption) htr.1 htr.2.1 htr.2.2.1 htr.2.2.2) v_X8_276 (mo_k0 hm) (by decide) rfl rfl rfl (by decide) (Nat.zero_le _) (Nat.zero_le _) rfl (Nat.le_of_ble_eq_true rfl) dX8_makes_114 ?_
      refine pr_iload hA dX8_makes_117 rfl ?_
      exact pr_ireturn hA rfl rfl (Nat.zero_le _) (Nat.zero_le _) dX8_makes_119 ⟨rfl, rfl, rfl, rfl⟩
    · have n_16 : ¬ 28 ≤ k := fun q => c_16 ((nI_leI (by omega) (by omega)).mpr q)
      refine pr_aload_n hA dX8_makes_19 rfl ?_
      refine pr_iload hA dX8_makes_20 rfl ?_
      refine pr_iload hA dX8_makes_22 rfl ?_
      refine pr_iconst hA (0) dX8_makes_24 (by decide) ?_
      refine pr_callVv hA [.int (nI (mrn σ)), .int (nI k), .int (0 : Int32)] (c_m_putReq (m := m) (k := (mrn σ)) (c := k) (σ := (m_mk_it12 σ s t u q k)) (pr_hl hA) hm (by omega) (by omega)) v_X8_238 (mo_k0 hm) (by decide) rfl rfl rfl (by decide) (Nat.zero_le _) (Nat.zero_le _) rfl (Nat.le_of_ble_eq_true rfl) dX8_makes_25 ?_
      refine pr_iinc (ls' := [_, _, _, _, _, _, _]) hA (nI (k + 1)) dX8_makes_28 (by decide) rfl (nI_inc _) rfl ?_
      refine pr_goto hA 12 dX8_makes_31 (by decide) ?_
      have hb := ih12 (28 - (k + 1)) (by omega) (k + 1) rfl (by omega)
      simp only [m_mk_it12] at hb
      exact hb
  exact (lp12 (28 - 0) 0 rfl (by omega))

theorem fr_m_mk {σ : pr_I} {s : Int32} {t : Int32} {u : Int32} {q : Int32} {o : Nat} (hms : ∀ m ∈ ([0, 1, 8, 9, 10] : List Nat), o ≠ m) : m_mk σ s t u q o = σ o := by
  unfold m_mk
  simp only [List.mem_cons, List.not_mem_nil, or_false, forall_eq_or_imp, forall_eq] at hms
  rw [fr_m_tr (by simp only [List.mem_cons, List.not_mem_nil, or_false, forall_eq_or_imp, forall_eq]; omega), fr_m_at (by simp only [List.mem_cons, List.not_mem_nil, or_false, forall_eq_or_imp, forall_eq]; omega), pr_up_ne (by omega), pr_up_ne (by omega), pr_up_ne (by omega), pr_up_ne (by omega), pr_up_ne (by omega), pr_up_ne (by omega), pr_up_ne (by omega), pr_up_ne (by omega), fr_m_mk_it12 (by simp only [List.mem_cons, List.not_mem_nil, or_false, forall_eq_or_imp, forall_eq]; omega)]

theorem fw_m_mk {σ : pr_I} {s : Int32} {t : Int32} {u : Int32} {q : Int32} {j0 : Nat} (hj : j0 < 12) (hmw : ∀ m ∈ ([8, 9] : List Nat), j0 ≠ m) : m_mk σ s t u q 1 j0 = σ 1 j0 := by
  simp only [List.mem_cons, List.not_mem_nil, or_false, forall_eq_or_imp, forall_eq] at hmw
  unfold m_mk
  exact ((fw_m_tr hj (by simp only [List.mem_cons, List.not_mem_nil, or_false, forall_eq_or_imp, forall_eq]; omega)).trans ((fw_m_at hj (fun m hm => by cases hm)).trans ((pr_upk (by omega)).trans ((pr_upk (by omega)).trans ((pr_upk (by omega)).trans ((pr_upk (by omega)).trans ((pr_upk (by omega)).trans ((pr_upk (by omega)).trans ((pr_upk (by omega)).trans ((pr_upk (by omega)).trans (fw_m_mk_it12 hj (fun m hm => by cases hm))))))))))))
noncomputable def m_mk0 (σ : pr_I) (s t u q : Int32) : pr_I := (pr_up (pr_up (pr_up (pr_up (pr_up (pr_up (pr_up (pr_up (m_mk_it12 σ s t u q 28) 1 (264 + 28 * (mrn σ) + 0) s) 1 (264 + 28 * (mrn σ) + 1) t) 1 (264 + 28 * (mrn σ) + 2) u) 1 (264 + 28 * (mrn σ) + 3) q) 1 (264 + 28 * (mrn σ) + 10) ((-1) : Int32)) 1 (264 + 28 * (mrn σ) + 11) ((-1) : Int32)) 1 (264 + 28 * (mrn σ) + 12) ((-1) : Int32)) 1 8 (nI ((mrn σ) + 1)))
def m_mk_ok (σ : pr_I) (s t u q : Int32) : Prop := m_at_ok (pr_up (pr_up (pr_up (pr_up (pr_up (pr_up (pr_up (pr_up (m_mk_it12 σ s t u q 28) 1 (264 + 28 * (mrn σ) + 0) s) 1 (264 + 28 * (mrn σ) + 1) t) 1 (264 + 28 * (mrn σ) + 2) u) 1 (264 + 28 * (mrn σ) + 3) q) 1 (264 + 28 * (mrn σ) + 10) ((-1) : Int32)) 1 (264 + 28 * (mrn σ) + 11) ((-1) : Int32)) 1 (264 + 28 * (mrn σ) + 12) ((-1) : Int32)) 1 8 (nI ((mrn σ) + 1))) (mrn σ) ∧ m_tr_ok (m_at (pr_up (pr_up (pr_up (pr_up (pr_up (pr_up (pr_up (pr_up (m_mk_it12 σ s t u q 28) 1 (264 + 28 * (mrn σ) + 0) s) 1 (264 + 28 * (mrn σ) + 1) t) 1 (264 + 28 * (mrn σ) + 2) u) 1 (264 + 28 * (mrn σ) + 3) q) 1 (264 + 28 * (mrn σ) + 10) ((-1) : Int32)) 1 (264 + 28 * (mrn σ) + 11) ((-1) : Int32)) 1 (264 + 28 * (mrn σ) + 12) ((-1) : Int32)) 1 8 (nI ((mrn σ) + 1))) (mrn σ)) (mrn σ)
theorem mI_m_mk {σ : pr_I} {s t u q : Int32} (hI : mI σ) (hs : vp_in s 12) (ht : vp_in t 12) (hr40 : mrn σ < 40) (hok : m_mk_ok σ s t u q) : mI (m_mk σ s t u q) := by
  have hat := hok.1
  have htr := hok.2
  unfold m_mk
  exact mI_m_tr (by omega) htr.1 htr.2.1 htr.2.2.1 (mI_m_at (by omega) hat.2.2.2 (mI.upv (mI.upn (mI.upn (mI.upn (mI.upn (mI.upn (mI.upv (mI.upv (mI_m_mk_it12 hI hr40 28 (by omega)) ((mW_req (k := mrn σ) (c := 0) (by omega) (by decide)).trans rfl) hs) ((mW_req (k := mrn σ) (c := 1) (by omega) (by decide)).trans rfl) ht) ((mW_req (k := mrn σ) (c := 2) (by omega) (by decide)).trans rfl)) ((mW_req (k := mrn σ) (c := 3) (by omega) (by decide)).trans rfl)) ((mW_req (k := mrn σ) (c := 10) (by omega) (by decide)).trans rfl)) ((mW_req (k := mrn σ) (c := 11) (by omega) (by decide)).trans rfl)) ((mW_req (k := mrn σ) (c := 12) (by omega) (by decide)).trans rfl)) rfl (nI_vin (by omega) (by decide))))
theorem mI_m_po {σ : pr_I} {z : Int32} (hI : mI σ) : mI (m_po σ z) := by
  unfold m_po
  exact mI.upn hI rfl
