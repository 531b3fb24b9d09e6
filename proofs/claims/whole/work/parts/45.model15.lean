noncomputable def m_gn_fl2 (σ : pr_I) (z : Int32) : Nat → pr_I → Int32 → pr_I
  | 0, σ1, _ => σ1
  | j + 1, σ1, x2 => (if z ≤ x2 then σ1 else (if (x2 + (m_po_r σ1 (z - x2))) = z then (m_po σ1 (z - x2)) else (m_gn_fl2 σ z j (m_ts (m_po σ1 (z - x2))) ((x2 + (m_po_r σ1 (z - x2))) + Int32.ofInt (1)))))
def m_gn_ok2 (σ : pr_I) (z : Int32) : Nat → pr_I → Int32 → Prop
  | 0, _, _ => False
  | j + 1, σ1, x2 => (if z ≤ x2 then True else (if (x2 + (m_po_r σ1 (z - x2))) = z then True else ((m_ts_ok (m_po σ1 (z - x2))) ∧ (m_gn_ok2 σ z j (m_ts (m_po σ1 (z - x2))) ((x2 + (m_po_r σ1 (z - x2))) + Int32.ofInt (1))))))
theorem fr_m_gn_fl2 {σ : pr_I} {z : Int32} {o : Nat} (hms : ∀ m ∈ ([0, 1, 8, 9, 10] : List Nat), o ≠ m) : ∀ {j : Nat} {σ1 : pr_I} {x2 : Int32}, (m_gn_fl2 σ z j σ1 x2) o = σ1 o := by
  simp only [List.mem_cons, List.not_mem_nil, or_false, forall_eq_or_imp, forall_eq] at hms
  intro j
  induction j with
  | zero => intro _ _; rfl
  | succ j ih =>
    intro σ1 x2
    show ((if z ≤ x2 then σ1 else (if (x2 + (m_po_r σ1 (z - x2))) = z then (m_po σ1 (z - x2)) else (m_gn_fl2 σ z j (m_ts (m_po σ1 (z - x2))) ((x2 + (m_po_r σ1 (z - x2))) + Int32.ofInt (1)))))) o = σ1 o
    by_cases c_4 : z ≤ x2
    · refine (congrFun (congrArg (fun z : pr_I => z) (if_pos c_4)) o).trans ?_
      show σ1 o = σ1 o
      rfl
    · refine (congrFun (congrArg (fun z : pr_I => z) (if_neg c_4)) o).trans ?_
      by_cases c_19 : (x2 + (m_po_r σ1 (z - x2))) = z
      · refine (congrFun (congrArg (fun z : pr_I => z) (if_pos c_19)) o).trans ?_
        show (m_po σ1 (z - x2)) o = σ1 o
        rw [fr_m_po (by simp only [List.mem_cons, List.not_mem_nil, or_false, forall_eq_or_imp, forall_eq]; omega)]
      · refine (congrFun (congrArg (fun z : pr_I => z) (if_neg c_19)) o).trans ?_
        rw [ih, fr_m_ts (by simp only [List.mem_cons, List.not_mem_nil, or_false, forall_eq_or_imp, forall_eq]; omega), fr_m_po (by simp only [List.mem_cons, List.not_mem_nil, or_false, forall_eq_or_imp, forall_eq]; omega)]
theorem fw_m_gn_fl2 {σ : pr_I} {z : Int32} {j0 : Nat} (hj : j0 < 12) (hmw : ∀ m ∈ ([0, 9] : List Nat), j0 ≠ m) : ∀ {j : Nat} {σ1 : pr_I} {x2 : Int32}, (m_gn_fl2 σ z j σ1 x2) 1 j0 = σ1 1 j0 := by
  simp only [List.mem_cons, List.not_mem_nil, or_false, forall_eq_or_imp, forall_eq] at hmw
  intro j
  induction j with
  | zero => intro _ _; rfl
  | succ j ih =>
    intro σ1 x2
    show ((if z ≤ x2 then σ1 else (if (x2 + (m_po_r σ1 (z - x2))) = z then (m_po σ1 (z - x2)) else (m_gn_fl2 σ z j (m_ts (m_po σ1 (z - x2))) ((x2 + (m_po_r σ1 (z - x2))) + Int32.ofInt (1)))))) 1 j0 = σ1 1 j0
    by_cases c_4 : z ≤ x2
    · refine (congrArg (fun z : pr_I => z 1 j0) (if_pos c_4)).trans ?_
      exact rfl
    · refine (congrArg (fun z : pr_I => z 1 j0) (if_neg c_4)).trans ?_
      by_cases c_19 : (x2 + (m_po_r σ1 (z - x2))) = z
      · refine (congrArg (fun z : pr_I => z 1 j0) (if_pos c_19)).trans ?_
        exact (fw_m_po hj (by simp only [List.mem_cons, List.not_mem_nil, or_false, forall_eq_or_imp, forall_eq]; omega))
      · refine (congrArg (fun z : pr_I => z 1 j0) (if_neg c_19)).trans ?_
        exact (ih.trans ((fw_m_ts hj (by simp only [List.mem_cons, List.not_mem_nil, or_false, forall_eq_or_imp, forall_eq]; omega)).trans (fw_m_po hj (by simp only [List.mem_cons, List.not_mem_nil, or_false, forall_eq_or_imp, forall_eq]; omega))))

noncomputable def m_gn (σ : pr_I) (z : Int32) : pr_I := (m_gn_fl2 σ z (sl 2001) σ (0 : Int32))
set_option maxRecDepth 100000 in
set_option maxHeartbeats 400000 in
theorem c_m_gn {g : pr_C} {l : Launch} (hl : l.stackTraces = false) {T : pr_T} {I : pr_I} {L : pr_L} {m : Nat} {σ : pr_I} {z : Int32} (hm : pr_Mo T m) (hI : mI σ) (hok : m_gn_ok2 σ z (sl 2001) σ (0 : Int32)) : pr_M g l 9 0 0 mX8_goesOn [.ref m, .int z] T (rg_put I m 16 σ) L (pr_R none T (rg_put I m 16 (m_gn σ z)) L) pr_no := by
  refine pr_ofG (by decide) rfl hl (Nat.le_of_ble_eq_true rfl) (fun X hA hX hXn hXt => ?_)
  subst hX
  show pr_G g X mX8_goesOn.2.2.1 _ 0 0 0 [.ref m, .int z, .null] [] T (rg_put I m 16 σ) L
  have hn5 := mI_n5 hI
  have hr4 := mI_nr4 hI
  have hl24 := mI_nl24 hI
  have hn12 := mI_nn12 hI
  have hsl2001 := sl_eq 2001
  refine pr_iconst hA (0) dX8_goesOn_0 (by decide) ?_
  refine pr_istore_n (ls' := [_, _, _]) hA dX8_goesOn_1 (by decide) rfl ?_
  obtain ⟨R, hR0⟩ : ∃ R, m_gn_fl2 σ z (sl 2001) σ (0 : Int32) = R := ⟨_, rfl⟩
  have hm0 : m_gn σ z = R := by simp only [m_gn, hR0]
  have lp2 : ∀ (j : Nat) (σ1 : pr_I) (x2 : Int32), mI σ1 → (∀ {o : Nat}, (∀ m ∈ ([0, 1, 8, 9, 10] : List Nat), o ≠ m) → σ1 o = σ o) → m_gn_ok2 σ z j σ1 x2 → m_gn_fl2 σ z j σ1 x2 = R → pr_G g X mX8_goesOn.2.2.1 (pr_MQ g X (pr_R none T (rg_put I m 16 (m_gn σ z)) L) pr_no 0 0) 0 0 2 [.ref m, .int z, .int x2] [] T (rg_put I m 16 σ1) L := by
    intro j
    induction j with
    | zero => intro σ1 x2 hJ hσ1 hok hR; exact hok.elim
    | succ j ih =>
      intro σ1 x2 hJ hσ1 hok hR
      have jn5 := mI_n5 hJ
      have jr4 := mI_nr4 hJ
      have jl24 := mI_nl24 hJ
      have jn12 := mI_nn12 hJ
      refine pr_iload_n hA dX8_goesOn_2 rfl ?_
      refine pr_iload_n hA dX8_goesOn_3 rfl ?_
      refine pr_icmp_ge hA 33 dX8_goesOn_4 (by decide) (fun c_4 => ?_) (fun c_4 => ?_)
      · simp only [m_gn_fl2, if_pos c_4] at hR
        exact pr_return hA rfl (Nat.zero_le _) (Nat.zero_le _) dX8_goesOn_33 ⟨rfl, rfl, (by rw [hm0, ← hR]), rfl⟩
      · refine pr_iload_n hA dX8_goesOn_7 rfl ?_
        refine pr_aload_n hA dX8_goesOn_8 rfl ?_
        refine pr_iload_n hA dX8_goesOn_9 rfl ?_
        refine pr_iload_n hA dX8_goesOn_10 rfl ?_
        refine pr_isub hA dX8_goesOn_11 ?_
        have hv12 : mI σ1 := hJ
        refine pr_callVi hA [.int (z - x2)] (c_m_po (m := m) (σ := σ1) (z := (z - x2)) (pr_hl hA) hm hv12) v_X8_293 (mo_k0 hm) (by decide) rfl rfl rfl (by decide) (Nat.zero_le _) (Nat.zero_le _) rfl (Nat.le_of_ble_eq_true rfl) dX8_goesOn_12 ?_
        refine pr_iadd hA dX8_goesOn_15 ?_
        refine pr_istore_n (ls' := [_, _, _]) hA dX8_goesOn_16 (by decide) rfl ?_
        refine pr_iload_n hA dX8_goesOn_17 rfl ?_
        refine pr_iload_n hA dX8_goesOn_18 rfl ?_
        refine pr_icmp_ne hA 23 dX8_goesOn_19 (by decide) (fun c_19 => ?_) (fun c_19 => ?_)
        · refine pr_aload_n hA dX8_goesOn_23 rfl ?_
          have hk24 := hok
          simp only [m_gn_ok2, if_neg c_4, if_neg c_19] at hk24
          have hneed24 := hk24.1
          have hv24 : mI (m_po σ1 (z - x2)) := (mI_m_po (σ := σ1) hJ)
          refine pr_callVv hA [] (c_m_ts (m := m) (σ := (m_po σ1 (z - x2))) (pr_hl hA) hm hv24 hneed24) v_X8_296 (mo_k0 hm) (by decide) rfl rfl rfl (by decide) (Nat.zero_le _) (Nat.zero_le _) rfl (Nat.le_of_ble_eq_true rfl) dX8_goesOn_24 ?_
          refine pr_iinc (ls' := [_, _, _]) hA ((x2 + (m_po_r σ1 (z - x2))) + Int32.ofInt (1)) dX8_goesOn_27 (by decide) rfl rfl rfl ?_
          refine pr_goto hA 2 dX8_goesOn_30 (by decide) ?_
          simp only [m_gn_fl2, if_neg c_4, if_neg c_19] at hR
          simp only [m_gn_ok2, if_neg c_4, if_neg c_19] at hok
          exact (ih (m_ts (m_po σ1 (z - x2))) ((x2 + (m_po_r σ1 (z - x2))) + Int32.ofInt (1)) (mI_m_ts (σ := (m_po σ1 (z - x2))) (mI_m_po (σ := σ1) hJ) hneed24) (by intro o hms; simp only [List.mem_cons, List.not_mem_nil, or_false, forall_eq_or_imp, forall_eq] at hms; rw [fr_m_ts (by simp only [List.mem_cons, List.not_mem_nil, or_false, forall_eq_or_imp, forall_eq]; omega), fr_m_po (by simp only [List.mem_cons, List.not_mem_nil, or_false, forall_eq_or_imp, forall_eq]; omega)]; exact hσ1 (by simp only [List.mem_cons, List.not_mem_nil, or_false, forall_eq_or_imp, forall_eq]; omega)) hok.2 hR)
        · simp only [m_gn_fl2, if_neg c_4, if_pos c_19] at hR
          exact pr_return hA rfl (Nat.zero_le _) (Nat.zero_le _) dX8_goesOn_22 ⟨rfl, rfl, (by rw [hm0, ← hR]), rfl⟩
  exact (lp2 (sl 2001) σ (0 : Int32) hI (fun _ => rfl) hok hR0)

theorem fr_m_gn {σ : pr_I} {z : Int32} {o : Nat} (hms : ∀ m ∈ ([0, 1, 8, 9, 10] : List Nat), o ≠ m) : m_gn σ z o = σ o := by
  unfold m_gn
  simp only [List.mem_cons, List.not_mem_nil, or_false, forall_eq_or_imp, forall_eq] at hms
  rw [fr_m_gn_fl2 (by simp only [List.mem_cons, List.not_mem_nil, or_false, forall_eq_or_imp, forall_eq]; omega)]

theorem fw_m_gn {σ : pr_I} {z : Int32} {j0 : Nat} (hj : j0 < 12) (hmw : ∀ m ∈ ([0, 9] : List Nat), j0 ≠ m) : m_gn σ z 1 j0 = σ 1 j0 := by
  simp only [List.mem_cons, List.not_mem_nil, or_false, forall_eq_or_imp, forall_eq] at hmw
  unfold m_gn
  exact (fw_m_gn_fl2 hj (by simp only [List.mem_cons, List.not_mem_nil, or_false, forall_eq_or_imp, forall_eq]; omega))
theorem mI_m_gn_fl2 {σ : pr_I} {z : Int32} : ∀ (j : Nat) (σ1 : pr_I) (x2 : Int32), mI σ1 → m_gn_ok2 σ z j σ1 x2 → mI (m_gn_fl2 σ z j σ1 x2)
  | 0, _, _, _, hok => hok.elim
  | j + 1, σ1, x2, hJ, hok => by
    by_cases c_4 : z ≤ x2
    · simp only [m_gn_fl2, if_pos c_4]; exact hJ
    · by_cases c_19 : (x2 + (m_po_r σ1 (z - x2))) = z
      · simp only [m_gn_fl2, if_neg c_4, if_pos c_19]; exact mI_m_po hJ
      · simp only [m_gn_ok2, if_neg c_4, if_neg c_19] at hok
        simp only [m_gn_fl2, if_neg c_4, if_neg c_19]
        exact mI_m_gn_fl2 j _ _ (mI_m_ts (mI_m_po hJ) hok.1) hok.2
def m_gn_ok (σ : pr_I) (z : Int32) : Prop := m_gn_ok2 σ z (sl 2001) σ (0 : Int32)
theorem mI_m_gn {σ : pr_I} {z : Int32} (hI : mI σ) (hok : m_gn_ok σ z) : mI (m_gn σ z) := mI_m_gn_fl2 _ _ _ hI hok
noncomputable def m_ua_fl2 (σ : pr_I) (r : Nat) : Nat → pr_I → Int32 → pr_I × Int32
  | 0, σ1, _ => (σ1, 0)
  | j + 1, σ1, x2 => (if (σ1 1 (264 + 28 * r + 4)) = (2 : Int32) then (σ1, (if (σ1 1 (264 + 28 * r + 4)) = (2 : Int32) then (if x2 ≤ (2000 : Int32) then x2 else ((-1) : Int32)) else ((-1) : Int32))) else (if (2000 : Int32) < x2 then (σ1, (if (σ1 1 (264 + 28 * r + 4)) = (2 : Int32) then (if x2 ≤ (2000 : Int32) then x2 else ((-1) : Int32)) else ((-1) : Int32))) else (if (m_ne_r σ1) = ((-1) : Int32) then (σ1, (if (σ1 1 (264 + 28 * r + 4)) = (2 : Int32) then (if x2 ≤ (2000 : Int32) then x2 else ((-1) : Int32)) else ((-1) : Int32))) else (m_ua_fl2 σ r j (m_ts (m_po σ1 ((2000 : Int32) - x2))) ((x2 + (m_po_r σ1 ((2000 : Int32) - x2))) + Int32.ofInt (1))))))
def m_ua_ok2 (σ : pr_I) (r : Nat) : Nat → pr_I → Int32 → Prop
  | 0, _, _ => False
  | j + 1, σ1, x2 => (if (σ1 1 (264 + 28 * r + 4)) = (2 : Int32) then True else (if (2000 : Int32) < x2 then True else (if (m_ne_r σ1) = ((-1) : Int32) then True else ((m_ts_ok (m_po σ1 ((2000 : Int32) - x2))) ∧ (m_ua_ok2 σ r j (m_ts (m_po σ1 ((2000 : Int32) - x2))) ((x2 + (m_po_r σ1 ((2000 : Int32) - x2))) + Int32.ofInt (1)))))))
theorem fr_m_ua_fl2 {σ : pr_I} {r : Nat} {o : Nat} (hms : ∀ m ∈ ([0, 1, 8, 9, 10] : List Nat), o ≠ m) : ∀ {j : Nat} {σ1 : pr_I} {x2 : Int32}, (m_ua_fl2 σ r j σ1 x2).1 o = σ1 o := by
  simp only [List.mem_cons, List.not_mem_nil, or_false, forall_eq_or_imp, forall_eq] at hms
  intro j
  induction j with
  | zero => intro _ _; rfl
  | succ j ih =>
    intro σ1 x2
    show ((if (σ1 1 (264 + 28 * r + 4)) = (2 : Int32) then (σ1, (if (σ1 1 (264 + 28 * r + 4)) = (2 : Int32) then (if x2 ≤ (2000 : Int32) then x2 else ((-1) : Int32)) else ((-1) : Int32))) else (if (2000 : Int32) < x2 then (σ1, (if (σ1 1 (264 + 28 * r + 4)) = (2 : Int32) then (if x2 ≤ (2000 : Int32) then x2 else ((-1) : Int32)) else ((-1) : Int32))) else (if (m_ne_r σ1) = ((-1) : Int32) then (σ1, (if (σ1 1 (264 + 28 * r + 4)) = (2 : Int32) then (if x2 ≤ (2000 : Int32) then x2 else ((-1) : Int32)) else ((-1) : Int32))) else (m_ua_fl2 σ r j (m_ts (m_po σ1 ((2000 : Int32) - x2))) ((x2 + (m_po_r σ1 ((2000 : Int32) - x2))) + Int32.ofInt (1))))))).1 o = σ1 o
    by_cases c_9 : (σ1 1 (264 + 28 * r + 4)) = (2 : Int32)
    · refine (congrFun (congrArg (fun z : pr_I × Int32 => z.1) (if_pos c_9)) o).trans ?_
      show σ1 o = σ1 o
      rfl
    · refine (congrFun (congrArg (fun z : pr_I × Int32 => z.1) (if_neg c_9)) o).trans ?_
      by_cases c_16 : (2000 : Int32) < x2
      · refine (congrFun (congrArg (fun z : pr_I × Int32 => z.1) (if_pos c_16)) o).trans ?_
        show σ1 o = σ1 o
        rfl
      · refine (congrFun (congrArg (fun z : pr_I × Int32 => z.1) (if_neg c_16)) o).trans ?_
        by_cases c_24 : (m_ne_r σ1) = ((-1) : Int32)
        · refine (congrFun (congrArg (fun z : pr_I × Int32 => z.1) (if_pos c_24)) o).trans ?_
          show σ1 o = σ1 o
          rfl
        · refine (congrFun (congrArg (fun z : pr_I × Int32 => z.1) (if_neg c_24)) o).trans ?_
          rw [ih, fr_m_ts (by simp only [List.mem_cons, List.not_mem_nil, or_false, forall_eq_or_imp, forall_eq]; omega), fr_m_po (by simp only [List.mem_cons, List.not_mem_nil, or_false, forall_eq_or_imp, forall_eq]; omega)]
theorem fw_m_ua_fl2 {σ : pr_I} {r : Nat} {j0 : Nat} (hj : j0 < 12) (hmw : ∀ m ∈ ([0, 9] : List Nat), j0 ≠ m) : ∀ {j : Nat} {σ1 : pr_I} {x2 : Int32}, (m_ua_fl2 σ r j σ1 x2).1 1 j0 = σ1 1 j0 := by
  simp only [List.mem_cons, List.not_mem_nil, or_false, forall_eq_or_imp, forall_eq] at hmw
  intro j
  induction j with
  | zero => intro _ _; rfl
  | succ j ih =>
    intro σ1 x2
    show ((if (σ1 1 (264 + 28 * r + 4)) = (2 : Int32) then (σ1, (if (σ1 1 (264 + 28 * r + 4)) = (2 : Int32) then (if x2 ≤ (2000 : Int32) then x2 else ((-1) : Int32)) else ((-1) : Int32))) else (if (2000 : Int32) < x2 then (σ1, (if (σ1 1 (264 + 28 * r + 4)) = (2 : Int32) then (if x2 ≤ (2000 : Int32) then x2 else ((-1) : Int32)) else ((-1) : Int32))) else (if (m_ne_r σ1) = ((-1) : Int32) then (σ1, (if (σ1 1 (264 + 28 * r + 4)) = (2 : Int32) then (if x2 ≤ (2000 : Int32) then x2 else ((-1) : Int32)) else ((-1) : Int32))) else (m_ua_fl2 σ r j (m_ts (m_po σ1 ((2000 : Int32) - x2))) ((x2 + (m_po_r σ1 ((2000 : Int32) - x2))) + Int32.ofInt (1))))))).1 1 j0 = σ1 1 j0
    by_cases c_9 : (σ1 1 (264 + 28 * r + 4)) = (2 : Int32)
    · refine (congrArg (fun z : pr_I × Int32 => z.1 1 j0) (if_pos c_9)).trans ?_
      exact rfl
    · refine (congrArg (fun z : pr_I × Int32 => z.1 1 j0) (if_neg c_9)).trans ?_
      by_cases c_16 : (2000 : Int32) < x2
      · refine (congrArg (fun z : pr_I × Int32 => z.1 1 j0) (if_pos c_16)).trans ?_
        exact rfl
      · refine (congrArg (fun z : pr_I × Int32 => z.1 1 j0) (if_neg c_16)).trans ?_
        by_cases c_24 : (m_ne_r σ1) = ((-1) : Int32)
        · refine (congrArg (fun z : pr_I × Int32 => z.1 1 j0) (if_pos c_24)).trans ?_
          exact rfl
        · refine (congrArg (fun z : pr_I × Int32 => z.1 1 j0) (if_neg c_24)).trans ?_
          exact (ih.trans ((fw_m_ts hj (by simp only [List.mem_cons, List.not_mem_nil, or_false, forall_eq_or_imp, forall_eq]; omega)).trans (fw_m_po hj (by simp only [List.mem_cons, List.not_mem_nil, or_false, forall_eq_or_imp, forall_eq]; omega))))

noncomputable def m_ua_r (σ : pr_I) (r : Nat) : Int32 := ((m_ua_fl2 σ r (sl 2002) σ (0 : Int32)).2)
noncomputable def m_ua (σ : pr_I) (r : Nat) : pr_I := (m_ua_fl2 σ r (sl 2002) σ (0 : Int32)).1
set_option maxRecDepth 100000 in
set_option maxHeartbeats 400000 in
theorem c_m_ua {g : pr_C} {l : Launch} (hl : l.stackTraces = false) {T : pr_T} {I : pr_I} {L : pr_L} {m : Nat} {σ : pr_I} {r : Nat} (hm : pr_Mo T m) (hI : mI σ) (hr : r < 40) (hok : m_ua_ok2 σ r (sl 2002) σ (0 : Int32)) : pr_M g l 9 0 0 mX8_untilActive [.ref m, .int (nI r)] T (rg_put I m 16 σ) L (pr_R (some (.int (m_ua_r σ r))) T (rg_put I m 16 (m_ua σ r)) L) pr_no := by
  refine pr_ofG (by decide) rfl hl (Nat.le_of_ble_eq_true rfl) (fun X hA hX hXn hXt => ?_)
  subst hX
  show pr_G g X mX8_untilActive.2.2.1 _ 0 0 0 [.ref m, .int (nI r), .null] [] T (rg_put I m 16 σ) L
  have hn5 := mI_n5 hI
  have hr4 := mI_nr4 hI
  have hl24 := mI_nl24 hI
  have hn12 := mI_nn12 hI
  have hsl2002 := sl_eq 2002
  refine pr_iconst hA (0) dX8_untilActive_0 (by decide) ?_
  refine pr_istore_n (ls' := [_, _, _]) hA dX8_untilActive_1 (by decide) rfl ?_
  obtain ⟨R, hR0⟩ : ∃ R, m_ua_fl2 σ r (sl 2002) σ (0 : Int32) = R := ⟨_, rfl⟩
  have hf : m_ua_r σ r = R.2 := by simp only [m_ua_r, hR0]
  have hm0 : m_ua σ r = R.1 := by simp only [m_ua, hR0]
  have lp2 : ∀ (j : Nat) (σ1 : pr_I) (x2 : Int32), mI σ1 → (∀ {o : Nat}, (∀ m ∈ ([0, 1, 8, 9, 10] : List Nat), o ≠ m) → σ1 o = σ o) → m_ua_ok2 σ r j σ1 x2 → m_ua_fl2 σ r j σ1 x2 = R → pr_G g X mX8_untilActive.2.2.1 (pr_MQ g X (pr_R (some (.int (m_ua_r σ r))) T (rg_put I m 16 (m_ua σ r)) L) pr_no 0 0) 0 0 2 [.ref m, .int (nI r), .int x2] [] T (rg_put I m 16 σ1) L := by
    intro j
    induction j with
    | zero => intro σ1 x2 hJ hσ1 hok hR; exact hok.elim
    | succ j ih =>
      intro σ1 x2 hJ hσ1 hok hR
      have jn5 := mI_n5 hJ
      have jr4 := mI_nr4 hJ
      have jl24 := mI_nl24 hJ
      have jn12 := mI_nn12 hJ
      refine pr_aload_n hA dX8_untilActive_2 rfl ?_
      refine pr_iload_n hA dX8_untilActive_3 rfl ?_
      refine pr_iconst hA (4) dX8_untilActive_4 (by decide) ?_
      refine pr_callVi hA [.int (nI r), .int (4 : Int32)] (c_m_req (m := m) (k := r) (c := 4) (σ := σ1) (pr_hl hA) hm (by omega) (by omega)) v_X8_229 (mo_k0 hm) (by decide) rfl rfl rfl (by decide) (Nat.zero_le _) (Nat.zero_le _) rfl (Nat.le_of_ble_eq_true rfl) dX8_untilActive_5 ?_
      refine pr_iconst hA (2) dX8_untilActive_8 (by decide) ?_
      refine pr_icmp_eq hA 49 dX8_untilActive_9 (by decide) (fun c_9 => ?_) (fun c_9 => ?_)
      · refine pr_aload_n hA dX8_untilActive_49 rfl ?_
        refine pr_iload_n hA dX8_untilActive_50 rfl ?_
        refine pr_iconst hA (4) dX8_untilActive_51 (by decide) ?_
        refine pr_callVi hA [.int (nI r), .int (4 : Int32)] (c_m_req (m := m) (k := r) (c := 4) (σ := σ1) (pr_hl hA) hm (by omega) (by omega)) v_X8_229 (mo_k0 hm) (by decide) rfl rfl rfl (by decide) (Nat.zero_le _) (Nat.zero_le _) rfl (Nat.le_of_ble_eq_true rfl) dX8_untilActive_52 ?_
        refine pr_iconst hA (2) dX8_untilActive_55 (by decide) ?_
        refine pr_join (c := (σ1 1 (264 + 28 * r + 4)) = (2 : Int32)) (J := 71) (st := []) (if x2 ≤ (2000 : Int32) then x2 else ((-1) : Int32)) ((-1) : Int32) inferInstance (fun kt kf => ?_) ?_
        · refine pr_icmp_ne hA 66 dX8_untilActive_56 (by decide) (fun c_56 => ?_) (fun c_56 => ?_)
          · refine pr_iconst hA ((-1)) dX8_untilActive_66 (by decide) ?_
            refine pr_goto hA 71 dX8_untilActive_67 (by decide) ?_
            exact kf c_56
          · refine pr_iload_n hA dX8_untilActive_59 rfl ?_
            refine pr_sipush hA (2000) dX8_untilActive_60 (by decide) ?_
            refine pr_join (c := x2 ≤ (2000 : Int32)) (J := 71) (st := []) x2 ((-1) : Int32) inferInstance (fun kt kf => ?_) ?_
            · refine pr_icmp_le hA 70 dX8_untilActive_63 (by decide) (fun c_63 => ?_) (fun c_63 => ?_)
              · refine pr_iload_n hA dX8_untilActive_70 rfl ?_
                exact kt c_63
              · refine pr_iconst hA ((-1)) dX8_untilActive_66 (by decide) ?_
                refine pr_goto hA 71 dX8_untilActive_67 (by decide) ?_
                exact kf c_63
            · exact kt c_56
        · simp only [m_ua_fl2, if_pos c_9] at hR
          exact pr_ireturn hA rfl rfl (Nat.zero_le _) (Nat.zero_le _) dX8_untilActive_71 ⟨(by first | (rw [hf, ← hR]; done) | (rw [hf, ← hR]; simp only [if_pos c_9])), rfl, (by rw [hm0, ← hR]), rfl⟩
      · refine pr_iload_n hA dX8_untilActive_12 rfl ?_
        refine pr_sipush hA (2000) dX8_untilActive_13 (by decide) ?_
        refine pr_icmp_gt hA 49 dX8_untilActive_16 (by decide) (fun c_16 => ?_) (fun c_16 => ?_)
        · refine pr_aload_n hA dX8_untilActive_49 rfl ?_
          refine pr_iload_n hA dX8_untilActive_50 rfl ?_
          refine pr_iconst hA (4) dX8_untilActive_51 (by decide) ?_
          refine pr_callVi hA [.int (nI r), .int (4 : Int32)] (c_m_req (m := m) (k := r) (c := 4) (σ := σ1) (pr_hl hA) hm (by omega) (by omega)) v_X8_229 (mo_k0 hm) (by decide) rfl rfl rfl (by decide) (Nat.zero_le _) (Nat.zero_le _) rfl (Nat.le_of_ble_eq_true rfl) dX8_untilActive_52 ?_
          refine pr_iconst hA (2) dX8_untilActive_55 (by decide) ?_
          refine pr_join (c := (σ1 1 (264 + 28 * r + 4)) = (2 : Int32)) (J := 71) (st := []) (if x2 ≤ (2000 : Int32) then x2 else ((-1) : Int32)) ((-1) : Int32) inferInstance (fun kt kf => ?_) ?_
          · refine pr_icmp_ne hA 66 dX8_untilActive_56 (by decide) (fun c_56 => ?_) (fun c_56 => ?_)
            · refine pr_iconst hA ((-1)) dX8_untilActive_66 (by decide) ?_
              refine pr_goto hA 71 dX8_untilActive_67 (by decide) ?_
              exact kf c_56
            · refine pr_iload_n hA dX8_untilActive_59 rfl ?_
              refine pr_sipush hA (2000) dX8_untilActive_60 (by decide) ?_
              refine pr_join (c := x2 ≤ (2000 : Int32)) (J := 71) (st := []) x2 ((-1) : Int32) inferInstance (fun kt kf => ?_) ?_
              · refine pr_icmp_le hA 70 dX8_untilActive_63 (by decide) (fun c_63 => ?_) (fun c_63 => ?_)
                · refine pr_iload_n hA dX8_untilActive_70 rfl ?_
                  exact kt c_63
                · refine pr_iconst hA ((-1)) dX8_untilActive_66 (by decide) ?_
                  refine pr_goto hA 71 dX8_untilActive_67 (by decide) ?_
                  exact kf c_63
              · exact kt c_56
          · simp only [m_ua_fl2, if_neg c_9, if_pos c_16] at hR
            exact pr_ireturn hA rfl rfl (Nat.zero_le _) (Nat.zero_le _) dX8_untilActive_71 ⟨(by first | (rw [hf, ← hR]; done) | (rw [hf, ← hR]; simp only [if_neg c_9, if_pos c_16])), rfl, (by rw [hm0, ← hR]), rfl⟩
        · refine pr_aload_n hA dX8_untilActive_19 rfl ?_
          have hv20 : mI σ1 := hJ
          refine pr_callVi hA [] (c_m_ne (m := m) (σ := σ1) (pr_hl hA) hm hv20) v_X8_287 (mo_k0 hm) (by decide) rfl rfl rfl (by decide) (Nat.zero_le _) (Nat.zero_le _) rfl (Nat.le_of_ble_eq_true rfl) dX8_untilActive_20 ?_
          refine pr_iconst hA ((-1)) dX8_untilActive_23 (by decide) ?_
          refine pr_icmp_eq hA 49 dX8_untilActive_24 (by decide) (fun c_24 => ?_) (fun c_24 => ?_)
          · refine pr_aload_n hA dX8_untilActive_49 rfl ?_
            refine pr_iload_n hA dX8_untilActive_50 rfl ?_
            refine pr_iconst hA (4) dX8_untilActive_51 (by decide) ?_
            refine pr_callVi hA [.int (nI r), .int (4 : Int32)] (c_m_req (m := m) (k := r) (c := 4) (σ := σ1) (pr_hl hA) hm (by omega) (by omega)) v_X8_229 (mo_k0 hm) (by decide) rfl rfl rfl (by decide) (Nat.zero_le _) (Nat.zero_le _) rfl (Nat.le_of_ble_eq_true rfl) dX8_untilActive_52 ?_
            refine pr_iconst hA (2) dX8_untilActive_55 (by decide) ?_
            refine pr_join (c := (σ1 1 (264 + 28 * r + 4)) = (2 : Int32)) (J := 71) (st := []) (if x2 ≤ (2000 : Int32) then x2 else ((-1) : Int32)) ((-1) : Int32) inferInstance (fun kt kf => ?_) ?_
            · refine pr_icmp_ne hA 66 dX8_untilActive_56 (by decide) (fun c_56 => ?_) (fun c_56 => ?_)
              · refine pr_iconst hA ((-1)) dX8_untilActive_66 (by decide) ?_
                refine pr_goto hA 71 dX8_untilActive_67 (by decide) ?_
                exact kf c_56
              · refine pr_iload_n hA dX8_untilActive_59 rfl ?_
                refine pr_sipush hA (2000) dX8_untilActive_60 (by decide) ?_
                refine pr_join (c := x2 ≤ (2000 : Int32)) (J := 71) (st := []) x2 ((-1) : Int32) inferInstance (fun kt kf => ?_) ?_
                · refine pr_icmp_le hA 70 dX8_untilActive_63 (by decide) (fun c_63 => ?_) (fun c_63 => ?_)
                  · refine pr_iload_n hA dX8_untilActive_70 rfl ?_
                    exact kt c_63
                  · refine pr_iconst hA ((-1)) dX8_untilActive_66 (by decide) ?_
                    refine pr_goto hA 71 dX8_untilActive_67 (by decide) ?_
                    exact kf c_63
                · exact kt c_56
            · simp only [m_ua_fl2, if_neg c_9, if_neg c_16, if_pos c_24] at hR
              exact pr_ireturn hA rfl rfl (Nat.zero_le _) (Nat.zero_le _) dX8_untilActive_71 ⟨(by first | (rw [hf, ← hR]; done) | (rw [hf, ← hR]; simp only [if_neg c_9, if_neg c_16, if_pos c_24])), rfl, (by rw [hm0, ← hR]), rfl⟩
          · refine pr_iload_n hA dX8_untilActive_27 rfl ?_
            refine pr_aload_n hA dX8_untilActive_28 rfl ?_
            refine pr_sipush hA (2000) dX8_untilActive_29 (by decide) ?_
            refine pr_iload_n hA dX8_untilActive_32 rfl ?_
            refine pr_isub hA dX8_untilActive_33 ?_
            have hv34 : mI σ1 := hJ
            refine pr_callVi hA [.int ((2000 : Int32) - x2)] (c_m_po (m := m) (σ := σ1) (z := ((2000 : Int32) - x2)) (pr_hl hA) hm hv34) v_X8_293 (mo_k0 hm) (by decide) rfl rfl rfl (by decide) (Nat.zero_le _) (Nat.zero_le _) rfl (Nat.le_of_ble_eq_true rfl) dX8_untilActive_34 ?_
            refine pr_iadd hA dX8_untilActive_37 ?_
            refine pr_istore_n (ls' := [_, _, _]) hA dX8_untilActive_38 (by decide) rfl ?_
            refine pr_aload_n hA dX8_untilActive_39 rfl ?_
            have hk40 := hok
            simp only [m_ua_ok2, if_neg c_9, if_neg c_16, if_neg c_24] at hk40
            have hneed40 := hk40.1
            have hv40 : mI (m_po σ1 ((2000 : Int32) - x2)) := (mI_m_po (σ := σ1) hJ)
            refine pr_callVv hA [] (c_m_ts (m := m) (σ := (m_po σ1 ((2000 : Int32) - x2))) (pr_hl hA) hm hv40 hneed40) v_X8_296 (mo_k0 hm) (by decide) rfl rfl rfl (by decide) (Nat.zero_le _) (Nat.zero_le _) rfl (Nat.le_of_ble_eq_true rfl) dX8_untilActive_40 ?_
            refine pr_iinc (ls' := [_, _, _]) hA ((x2 + (m_po_r σ1 ((2000 : Int32) - x2))) + Int32.ofInt (1)) dX8_untilActive_43 (by decide) rfl rfl rfl ?_
            refine pr_goto hA 2 dX8_untilActive_46 (by decide) ?_
            simp only [m_ua_fl2, if_neg c_9, if_neg c_16, if_neg c_24] at hR
            simp only [m_ua_ok2, if_neg c_9, if_neg c_16, if_neg c_24] at hok
            exact (ih (m_ts (m_po σ1 ((2000 : Int32) - x2))) ((x2 + (m_po_r σ1 ((2000 : Int32) - x2))) + Int32.ofInt (1)) (mI_m_ts (σ := (m_po σ1 ((2000 : Int32) - x2))) (mI_m_po (σ := σ1) hJ) hneed40) (by intro o hms; simp only [List.mem_cons, List.not_mem_nil, or_false, forall_eq_or_imp, forall_eq] at hms; rw [fr_m_ts (by simp only [List.mem_cons, List.not_mem_nil, or_false, forall_eq_or_imp, forall_eq]; omega), fr_m_po (by simp only [List.mem_cons, List.not_mem_nil, or_false, forall_eq_or_imp, forall_eq]; omega)]; exact hσ1 (by simp only [List.mem_cons, List.not_mem_nil, or_false, forall_eq_or_imp, forall_eq]; omega)) hok.2 hR)
  exact (lp2 (sl 2002) σ (0 : Int32) hI (fun _ => rfl) hok hR0)

theorem fr_m_ua {σ : pr_I} {r : Nat} {o : Nat} (hms : ∀ m ∈ ([0, 1, 8, 9, 10] : List Nat), o ≠ m) : m_ua σ r o = σ o := by
  unfold m_ua
  simp only [List.mem_cons, List.not_mem_nil, or_false, forall_eq_or_imp, forall_eq] at hms
  rw [fr_m_ua_fl2 (by simp only [List.mem_cons, List.not_mem_nil, or_false, forall_eq_or_imp, forall_eq]; omega)]

theorem fw_m_ua {σ : pr_I} {r : Nat} {j0 : Nat} (hj : j0 < 12) (hmw : ∀ m ∈ ([0, 9] : List Nat), j0 ≠ m) : m_ua σ r 1 j0 = σ 1 j0 := by
  simp only [List.mem_cons, List.not_mem_nil, or_false, forall_eq_or_imp, forall_eq] at hmw
  unfold m_ua
  exact (fw_m_ua_fl2 hj (by simp only [List.mem_cons, List.not_mem_nil, or_false, forall_eq_or_imp, forall_eq]; omega))
theorem mI_m_ua_fl2 {σ : pr_I} {r : Nat} : ∀ (j : Nat) (σ1 : pr_I) (x2 : Int32), mI σ1 → m_ua_ok2 σ r j σ1 x2 → mI (m_ua_fl2 σ r j σ1 x2).1
  | 0, _, _, _, hok => hok.elim
  | j + 1, σ1, x2, hJ, hok => by
    by_cases c_9 : (σ1 1 (264 + 28 * r + 4)) = (2 : Int32)
    · simp only [m_ua_fl2, if_pos c_9]; exact hJ
    · by_cases c_16 : (2000 : Int32) < x2
      · simp only [m_ua_fl2, if_neg c_9, if_pos c_16]; exact hJ
      · by_cases c_24 : (m_ne_r σ1) = ((-1) : Int32)
        · simp only [m_ua_fl2, if_neg c_9, if_neg c_16, if_pos c_24]; exact hJ
        · simp only [m_ua_ok2, if_neg c_9, if_neg c_16, if_neg c_24] at hok
          simp only [m_ua_fl2, if_neg c_9, if_neg c_16, if_neg c_24]
          exact mI_m_ua_fl2 j _ _ (mI_m_ts (mI_m_po hJ) hok.1) hok.2
def m_ua_ok (σ : pr_I) (r : Nat) : Prop := m_ua_ok2 σ r (sl 2002) σ (0 : Int32)
theorem mI_m_ua {σ : pr_I} {r : Nat} (hI : mI σ) (hok : m_ua_ok σ r) : mI (m_ua σ r) := mI_m_ua_fl2 _ _ _ hI hok
/-! rows laid over each other -/
theorem mW_lt {j B : Nat} (h : mW j = some B) : j < 5384 := by
  rcases Nat.lt_or_ge j 5384 with c | c
  · exact c
  · unfold mW at h
    rw [if_neg (by omega), if_neg (by omega), if_neg (by omega), if_neg (by omega), if_neg (by omega)] at h
    cases h
theorem mB_row {o k B : Nat} (h1 : 0 < o) (h2 : o < 6) (h : mB o k = some B) : mW k = some B := by
  unfold mB at h; rw [if_neg (by omega), if_pos h2] at h; exact h
theorem mW_row {o k B : Nat} (h1 : 0 < o) (h2 : o < 6) (h : mW k = some B) : mB o k = some B := by
  unfold mB; rw [if_neg (by omega), if_pos h2]; exact h
theorem mI_cpf {f g : Nat → Int32} (hf : ∀ k B, mW k = some B → vp_in (f k) B) : ∀ k B, mW k = some B → vp_in (cp_row f g 5384 k) B := fun k B q => by
  unfold cp_row; rw [if_pos (mW_lt q)]; exact hf k B q
theorem mI_rw {σ : pr_I} (h : mI σ) {o : Nat} (h1 : 0 < o) (h2 : o < 6) : ∀ k B, mW k = some B → vp_in (σ o k) B := fun k B q => h o k B (mW_row h1 h2 q)
theorem mI.cp {σ : pr_I} {b : Nat} {f g : Nat → Int32} (h : mI σ) (h1 : 0 < b) (h2 : b < 6) (hf : ∀ k B, mW k = some B → vp_in (f k) B) : mI (pr_row σ b (cp_row f g 5384)) :=
  mI.row h (fun k B q => mI_cpf hf k B (mB_row h1 h2 q))
def m_fn_ok (σ : pr_I) (s t u : Int32) : Prop := m_mk_ok (pr_row σ 2 (cp_row (σ 1) (σ 2) 5384)) s t u 1 ∧ m_ua_ok (m_mk (pr_row σ 2 (cp_row (σ 1) (σ 2) 5384)) s t u (1 : Int32)) (mrn σ)
noncomputable def m_fn_r (σ : pr_I) (s : Int32) (t : Int32) (u : Int32) : Int32 := (m_ua_r (m_mk (pr_row σ 2 (cp_row (σ 1) (σ 2) 5384)) s t u (1 : Int32)) (mrn σ))
noncomputable def m_fn (σ : pr_I) (s : Int32) (t : Int32) (u : Int32) : pr_I := (pr_row (m_ua (m_mk (pr_row σ 2 (cp_row (σ 1) (σ 2) 5384)) s t u (1 : Int32)) (mrn σ)) 1 (cp_row (cp_row (σ 1) (σ 2) 5384) ((m_ua (m_mk (pr_row σ 2 (cp_row (σ 1) (σ 2) 5384)) s t u (1 : Int32)) (mrn σ)) 1) 5384))
set_option maxRecDepth 100000 in
set_option maxHeartbeats 400000 in
theorem c_m_fn {g : pr_C} {l : Launch} (hl : l.stackTraces = false) {T : pr_T} {I : pr_I} {L : pr_L} {m : Nat} {σ : pr_I} {s : Int32} {t : Int32} {u : Int32} (hm : pr_Mo T m) (hI : mI σ) (hs : vp_in s 12) (ht : vp_in t 12) (hr40 : mrn σ < 40) (hok : m_fn_ok σ s t u) : pr_M g l 10 0 0 mX8_forNew [.ref m, .int s, .int t, .int u] T (rg_put I m 16 σ) L (pr_R (some (.int (m_fn_r σ s t u))) T (rg_put I m 16 (m_fn σ s t u)) L) pr_no := by
  refine pr_ofG (by decide) rfl hl (Nat.le_of_ble_eq_true rfl) (fun X hA hX hXn hXt => ?_)
  subst hX
  show pr_G g X mX8_forNew.2.2.1 _ 0 0 0 [.ref m, .int s, .int t, .int u, .null] [] T (rg_put I m 16 σ) L
  have hn5 := mI_n5 hI
  have hr4 := mI_nr4 hI
  have hl24 := mI_nl24 hI
  have hn12 := mI_nn12 hI
  refine pr_aload_n hA dX8_forNew_0 rfl ?_
  refine pr_getR hA f_X8_9 rfl (mo_k0 hm) (mo_f0_0 hm) dX8_forNew_1 ?_
  refine pr_aload_n hA dX8_forNew_4 rfl ?_
  refine pr_getR hA f_X8_13 rfl (mo_k0 hm) (mo_f0_1 hm) dX8_forNew_5 ?_
  refine pr_callSv hA [.ref (m + 1), .ref (m + 2)] (c_copiesE (pr_hl hA) (mo_k1 hm) (mo_k2 hm) (by omega) (rg_row (by decide)) (rg_row (by decide)) (rg_put_row (by decide))) s_X8_193 rfl (by decide) (Nat.zero_le _) (Nat.zero_le _) rfl (Nat.le_of_ble_eq_true rfl) dX8_forNew_8 ?_
  refine pr_aload_n hA dX8_forNew_11 rfl ?_
  refine pr_aload_n hA dX8_forNew_12 rfl ?_
  refine pr_iload_n hA dX8_forNew_13 rfl ?_
  refine pr_iload_n hA dX8_forNew_14 rfl ?_
  refine pr_iload_n hA dX8_forNew_15 rfl ?_
  refine pr_iconst hA (1) dX8_forNew_16 (by decide) ?_
  have hv17 : mI (pr_row σ 2 (cp_row (σ 1) (σ 2) 5384)) := (mI.cp hI (by decide) (by decide) (mI_rw hI (by decide) (by decide)))
  refine pr_callVi hA [.int s, .int t, .int u, .int (1 : Int32)] (c_m_mk (m := m) (σ := (pr_row σ 2 (cp_row (σ 1) (σ 2) 5384))) (s := s) (t := t) (u := u) (q := (1 : Int32)) (pr_hl hA) hm hv17 hs ht hr40 hok.1.1 hok.1.2) v_X8_342 (mo_k0 hm) (by decide) rfl rfl rfl (by decide) (Nat.zero_le _) (Nat.zero_le _) rfl (Nat.le_of_ble_eq_true rfl) dX8_forNew_17 ?_
  rw [show (m_mk_r (pr_row σ 2 (cp_row (σ 1) (σ 2) 5384)) s t u (1 : Int32)) = (nI (mrn σ)) from rfl]
  have hv20 : mI (m_mk (pr_row σ 2 (cp_row (σ 1) (σ 2) 5384)) s t u (1 : Int32)) := (mI_m_mk (mI.cp hI (by decide) (by decide) (mI_rw hI (by decide) (by decide))) hs ht hr40 hok.1)
  refine pr_callVi hA [.int (nI (mrn σ))] (c_m_ua (m := m) (σ := (m_mk (pr_row σ 2 (cp_row (σ 1) (σ 2) 5384)) s t u (1 : Int32))) (r := (mrn σ)) (pr_hl hA) hm hv20 hr40 hok.2) v_X8_389 (mo_k0 hm) (by decide) rfl rfl rfl (by decide) (Nat.zero_le _) (Nat.zero_le _) rfl (Nat.le_of_ble_eq_true rfl) dX8_forNew_20 ?_
  refine pr_istore (ls' := [_, _, _, _, _]) hA dX8_forNew_23 (by decide) rfl ?_
  refine pr_aload_n hA dX8_forNew_25 rfl ?_
  refine pr_getR hA f_X8_13 rfl (mo_k0 hm) (mo_f0_1 hm) dX8_forNew_26 ?_
  refine pr_aload_n hA dX8_forNew_29 rfl ?_
  refine pr_getR hA f_X8_9 rfl (mo_k0 hm) (mo_f0_0 hm) dX8_forNew_30 ?_
  refine pr_callSv hA [.ref (m + 2), .ref (m + 1)] (c_copiesE (pr_hl hA) (mo_k2 hm) (mo_k1 hm) (by omega) ((rg_row (by decide)).trans ((fr_m_ua (by decide)).trans ((fr_m_mk (by decide)).trans pr_row_eq))) (rg_row (by decide)) (rg_put_row (by decide))) s_X8_193 rfl (by decide) (Nat.zero_le _) (Nat.zero_le _) rfl (Nat.le_of_ble_eq_true rfl) dX8_forNew_33 ?_
  refine pr_iload hA dX8_forNew_36 rfl ?_
  exact pr_ireturn hA rfl rfl (Nat.zero_le _) (Nat.zero_le _) dX8_forNew_38 ⟨rfl, rfl, rfl, rfl⟩

theorem fr_m_fn {σ : pr_I} {s : Int32} {t : Int32} {u : Int32} {o : Nat} (hms : ∀ m ∈ ([0, 1, 2, 8, 9, 10] : List Nat), o ≠ m) : m_fn σ s t u o = σ o := by
  unfold m_fn
  simp only [List.mem_cons, List.not_mem_nil, or_false, forall_eq_or_imp, forall_eq] at hms
  rw [pr_row_ne (by omega), fr_m_ua (by simp only [List.mem_cons, List.not_mem_nil, or_false, forall_eq_or_imp, forall_eq]; omega), fr_m_mk (by simp only [List.mem_cons, List.not_mem_nil, or_false, forall_eq_or_imp, forall_eq]; omega), pr_row_ne (by omega)]

theorem mI_m_fn {σ : pr_I} {s t u : Int32} (hI : mI σ) (hs : vp_in s 12) (ht : vp_in t 12) (hr40 : mrn σ < 40) (hok : m_fn_ok σ s t u) : mI (m_fn σ s t u) := by
  unfold m_fn
  exact mI.cp (mI_m_ua (mI_m_mk (mI.cp hI (by decide) (by decide) (mI_rw hI (by decide) (by decide))) hs ht hr40 hok.1) hok.2) (by decide) (by decide) (mI_cpf (mI_rw hI (by decide) (by decide)))
