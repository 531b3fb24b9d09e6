theorem c_m_onx {g : pr_C} {l : Launch} (hl : l.stackTraces = false) {T : pr_T} {I : pr_I} {L : pr_L} {m : Nat} {σ : pr_I} {y x : Int32} (hm : pr_Mo T m) (hI : mI σ) (hy : vp_in y 24) (hx : vp_in x 12) : pr_M g l 2 0 0 mX8_isOn [.ref m, .int y, .int x] T (rg_put I m 16 σ) L (pr_R (some (.int (m_on_r σ y.toNatClampNeg x))) T (rg_put I m 16 σ) L) pr_no := by
  obtain ⟨j, hj, rfl⟩ := vp_in_of hy (by decide)
  rw [nI_clamp (by omega)]
  exact c_m_on hl hm hI hj hx
noncomputable def m_fi_it36 (σ σ1 : pr_I) (s : Int32) (t : Int32) (u : Int32) (k : Nat) (x4 : Int32) : Nat → Int32
  | 0 => (0 : Int32)
  | k1 + 1 => (if (m_has_r σ1 u (m_fi_it36 σ σ1 s t u k x4 k1)) = 0 then ((m_fi_it36 σ σ1 s t u k x4 k1) + Int32.ofInt (1)) else (if (m_on_r σ1 (m_fi_it36 σ σ1 s t u k x4 k1).toNatClampNeg x4) = 0 then ((m_fi_it36 σ σ1 s t u k x4 k1) + Int32.ofInt (1)) else (m_fi_it36 σ σ1 s t u k x4 k1)))
noncomputable def m_fi_it36_e (σ σ1 : pr_I) (s : Int32) (t : Int32) (u : Int32) (k : Nat) (x4 : Int32) (k1 : Nat) : Bool := (if (m_has_r σ1 u (m_fi_it36 σ σ1 s t u k x4 k1)) = 0 then false else (if (m_on_r σ1 (m_fi_it36 σ σ1 s t u k x4 k1).toNatClampNeg x4) = 0 then false else true))
theorem st_m_fi_it36_53 {σ σ1 : pr_I} {s : Int32} {t : Int32} {u : Int32} {k : Nat} {x4 : Int32} {k1 : Nat} (c_42 : ¬ ((m_has_r σ1 u (m_fi_it36 σ σ1 s t u k x4 k1)) = 0)) (c_53 : ¬ ((m_on_r σ1 (m_fi_it36 σ σ1 s t u k x4 k1).toNatClampNeg x4) = 0)) : ∀ j, m_fi_it36 σ σ1 s t u k x4 (k1 + j) = m_fi_it36 σ σ1 s t u k x4 k1
  | 0 => rfl
  | j + 1 => by
    have ih := st_m_fi_it36_53 c_42 c_53 j
    show m_fi_it36 σ σ1 s t u k x4 ((k1 + j) + 1) = m_fi_it36 σ σ1 s t u k x4 k1
    simp only [m_fi_it36, ih, if_neg c_42, if_neg c_53]
noncomputable def m_fi_it27 (σ : pr_I) (s : Int32) (t : Int32) (u : Int32) : Nat → pr_I × Int32
  | 0 => ((pr_up (m_lp σ t u) 0 17 (0 : Int32)), s)
  | k + 1 => (if ((m_fi_it27 σ s t u k).2) = t then ((m_fi_it27 σ s t u k).1, ((m_fi_it27 σ s t u k).2)) else ((pr_up (pr_up (m_fi_it27 σ s t u k).1 10 (((m_fi_it27 σ s t u k).1 0 17).toNatClampNeg) (m_fi_it36 σ (m_fi_it27 σ s t u k).1 s t u k ((m_fi_it27 σ s t u k).2) (sl 23))) 0 17 (((m_fi_it27 σ s t u k).1 0 17) + (1 : Int32))), (σ 1 (96 + 7 * ((m_fi_it36 σ (m_fi_it27 σ s t u k).1 s t u k ((m_fi_it27 σ s t u k).2) (sl 23)).toNatClampNeg) + 1))))
theorem fr_m_fi_it27 {σ : pr_I} {s : Int32} {t : Int32} {u : Int32} {o : Nat} (hms : ∀ m ∈ ([0, 10] : List Nat), o ≠ m) : ∀ {k : Nat}, (m_fi_it27 σ s t u k).1 o = (pr_up (m_lp σ t u) 0 17 (0 : Int32)) o := by
  simp only [List.mem_cons, List.not_mem_nil, or_false, forall_eq_or_imp, forall_eq] at hms
  intro k
  induction k with
  | zero =>
    show (pr_up (m_lp σ t u) 0 17 (0 : Int32)) o = (pr_up (m_lp σ t u) 0 17 (0 : Int32)) o
    rfl
  | succ k ih =>
    by_cases c_30 : ((m_fi_it27 σ s t u k).2) = t
    · refine (congrFun (congrArg (fun z : pr_I × Int32 => z.1) (if_pos c_30)) o).trans ?_
      show (m_fi_it27 σ s t u k).1 o = (pr_up (m_lp σ t u) 0 17 (0 : Int32)) o
      rw [ih]
    · refine (congrFun (congrArg (fun z : pr_I × Int32 => z.1) (if_neg c_30)) o).trans ?_
      show (pr_up (pr_up (m_fi_it27 σ s t u k).1 10 (((m_fi_it27 σ s t u k).1 0 17).toNatClampNeg) (m_fi_it36 σ (m_fi_it27 σ s t u k).1 s t u k ((m_fi_it27 σ s t u k).2) (sl 23))) 0 17 (((m_fi_it27 σ s t u k).1 0 17) + (1 : Int32))) o = (pr_up (m_lp σ t u) 0 17 (0 : Int32)) o
      rw [pr_up_ne (by omega), pr_up_ne (by omega), ih]

noncomputable def m_fi_it27_e (σ : pr_I) (s : Int32) (t : Int32) (u : Int32) (k : Nat) : Bool := (if ((m_fi_it27 σ s t u k).2) = t then true else false)
theorem st_m_fi_it27_30 {σ : pr_I} {s : Int32} {t : Int32} {u : Int32} {k : Nat} (c_30 : ((m_fi_it27 σ s t u k).2) = t) : ∀ j, m_fi_it27 σ s t u (k + j) = m_fi_it27 σ s t u k
  | 0 => rfl
  | j + 1 => by
    have ih := st_m_fi_it27_30 c_30 j
    show m_fi_it27 σ s t u ((k + j) + 1) = m_fi_it27 σ s t u k
    simp only [m_fi_it27, ih, if_pos c_30]
noncomputable def m_fi_r (σ : pr_I) (s : Int32) (t : Int32) (u : Int32) : Int32 := (if ((m_lp σ t u) 8 s.toNatClampNeg) = (1000000000 : Int32) then (0 : Int32) else (1 : Int32))
noncomputable def m_fi (σ : pr_I) (s : Int32) (t : Int32) (u : Int32) : pr_I := (if ((m_lp σ t u) 8 s.toNatClampNeg) = (1000000000 : Int32) then (pr_up (m_lp σ t u) 0 17 (0 : Int32)) else (m_fi_it27 σ s t u (sl 12)).1)
theorem fi_y {σ σ1 : pr_I} {s t u : Int32} {k : Nat} {x4 : Int32} : ∀ k1, k1 < 24 → vp_in (m_fi_it36 σ σ1 s t u k x4 k1) (k1 + 1)
  | 0, _ => nI_vin (k := 0) (n := 1) (by decide) (by decide)
  | k1 + 1, h => by
    have ih := fi_y (σ := σ) (σ1 := σ1) (s := s) (t := t) (u := u) (k := k) (x4 := x4) k1 (by omega)
    exact p_ite (P := fun z : Int32 => vp_in z (k1 + 1 + 1)) (vp_inc ih (by omega)) (p_ite (P := fun z : Int32 => vp_in z (k1 + 1 + 1)) (vp_inc ih (by omega)) (vp_in_mono ih (by omega)))
theorem fi_I {σ : pr_I} {s t u : Int32} (hI : mI σ) (hs : vp_in s 12) : ∀ k, k < 13 → mI (m_fi_it27 σ s t u k).1 ∧ vp_in ((m_fi_it27 σ s t u k).1 0 17) (k + 1) ∧ vp_in (m_fi_it27 σ s t u k).2 12
  | 0, _ => by
    have h1 : mI (m_lp σ t u) := mI_89 hI (fun h => fr_m_lp h)
    have h2 : vp_in (0 : Int32) 1 := nI_vin (k := 0) (n := 1) (by decide) (by decide)
    refine ⟨h1.upv (B := 13) rfl (vp_in_mono h2 (by decide)), ?_, hs⟩
    show vp_in (pr_up (m_lp σ t u) 0 17 (0 : Int32) 0 17) 1
    rw [pr_upe]
    exact h2
  | k + 1, h => by
    obtain ⟨i1, i2, i3⟩ := fi_I (σ := σ) (s := s) (t := t) (u := u) hI hs k (by omega)
    have hy : vp_in (m_fi_it36 σ (m_fi_it27 σ s t u k).1 s t u k ((m_fi_it27 σ s t u k).2) (sl 23)) 24 := vp_in_mono (fi_y (sl 23) (by have := sl_eq 23; omega)) (by have := sl_eq 23; omega)
    have hc := vp_inc i2 (by omega)
    refine p_ite (P := fun z : pr_I × Int32 => mI z.1 ∧ vp_in (z.1 0 17) (k + 1 + 1) ∧ vp_in z.2 12) ⟨i1, vp_in_mono i2 (by omega), i3⟩ ⟨(i1.upv (B := 24) rfl hy).upv (B := 13) rfl (vp_in_mono hc (by omega)), ?_, mI_link hI (vp_in_lt hy) (by decide) rfl⟩
    show vp_in (pr_up (pr_up (m_fi_it27 σ s t u k).1 10 (((m_fi_it27 σ s t u k).1 0 17).toNatClampNeg) (m_fi_it36 σ (m_fi_it27 σ s t u k).1 s t u k ((m_fi_it27 σ s t u k).2) (sl 23))) 0 17 (((m_fi_it27 σ s t u k).1 0 17) + (1 : Int32)) 0 17) (k + 1 + 1)
    rw [pr_upe]
    exact hc
theorem fi_lt {σ : pr_I} {s t u : Int32} {k : Nat} (hend : m_fi_it27_e σ s t u (sl 12) = true) (c : ¬ (m_fi_it27 σ s t u k).2 = t) (hk : k ≤ sl 12) : k + 1 ≤ 12 := by
  have h12 := sl_eq 12
  rcases Nat.lt_or_ge k (sl 12) with h | h
  · omega
  · have e : k = sl 12 := by omega
    rw [e] at c
    exact absurd hend (by simp only [m_fi_it27_e, if_neg c]; decide)
set_option maxRecDepth 100000 in
set_option maxHeartbeats 400000 in
theorem c_m_fi {g : pr_C} {l : Launch} (hl : l.stackTraces = false) {T : pr_T} {I : pr_I} {L : pr_L} {m : Nat} {σ : pr_I} {s : Int32} {t : Int32} {u : Int32} (hm : pr_Mo T m) (hI : mI σ) (hs : vp_in s 12) (ht : vp_in t 12) (hend0 : m_lp_it51_e σ t u (sl 13) = true) (hend : ¬ (m_lp σ t u) 8 s.toNatClampNeg = (1000000000 : Int32) → m_fi_it27_e σ s t u (sl 12) = true) (hin : ¬ (m_lp σ t u) 8 s.toNatClampNeg = (1000000000 : Int32) → ∀ k, ¬ (m_fi_it27 σ s t u k).2 = t → m_fi_it36_e σ (m_fi_it27 σ s t u k).1 s t u k ((m_fi_it27 σ s t u k).2) (sl 23) = true) : pr_M g l 4 0 0 mX8_finds [.ref m, .int s, .int t, .int u] T (rg_put I m 16 σ) L (pr_R (some (.int (m_fi_r σ s t u))) T (rg_put I m 16 (m_fi σ s t u)) L) pr_no := by
  refine pr_ofG (by decide) rfl hl (Nat.le_of_ble_eq_true rfl) (fun X hA hX hXn hXt => ?_)
  subst hX
  show pr_G g X mX8_finds.2.2.1 _ 0 0 0 [.ref m, .int s, .int t, .int u, .null, .null] [] T (rg_put I m 16 σ) L
  have hn5 := mI_n5 hI
  have hr4 := mI_nr4 hI
  have hl24 := mI_nl24 hI
  have hn12 := mI_nn12 hI
  have hsl12 := sl_eq 12
  have hsl23 := sl_eq 23
  refine pr_aload_n hA dX8_finds_0 rfl ?_
  refine pr_iload_n hA dX8_finds_1 rfl ?_
  refine pr_iload_n hA dX8_finds_2 rfl ?_
  have hv3 : mI σ := hI
  refine pr_callVv hA [.int t, .int u] (c_m_lp (m := m) (σ := σ) (t := t) (u := u) (pr_hl hA) hm hv3 (by first | omega | assumption) (by first | omega | assumption)) v_X8_219 (mo_k0 hm) (by decide) rfl rfl rfl (by decide) (Nat.zero_le _) (Nat.zero_le _) rfl (Nat.le_of_ble_eq_true rfl) dX8_finds_3 ?_
  refine pr_aload_n hA dX8_finds_6 rfl ?_
  refine pr_iconst hA (0) dX8_finds_7 (by decide) ?_
  refine pr_putE (I' := (rg_put I m 16 (pr_up (m_lp σ t u) 0 17 (0 : Int32)))) hA f_X8_223 rfl (mo_k0 hm) (rg_up0 (by decide)) dX8_finds_8 ?_
  refine pr_aload_n hA dX8_finds_11 rfl ?_
  refine pr_getR hA f_X8_32 rfl (mo_k0 hm) (mo_f0_14 hm) dX8_finds_12 ?_
  refine pr_iload_n hA dX8_finds_15 rfl ?_
  refine pr_ialdE (v := ((m_lp σ t u) 8 s.toNatClampNeg)) hA (mo_k8 hm) hs ((rg_val (by decide)).trans (pr_upv (by decide))) dX8_finds_16 ?_
  refine pr_ldc hA kK_X8_212 dX8_finds_17 ?_
  refine pr_icmp_ne hA 24 dX8_finds_19 (by decide) (fun c_19 => ?_) (fun c_19 => ?_)
  · have hend := hend c_19
    have hin := hin c_19
    refine pr_iload_n hA dX8_finds_24 rfl ?_
    refine pr_istore (ls' := [_, _, _, _, _, _]) hA dX8_finds_25 (by decide) rfl ?_
    have lp27 : ∀ (j k : Nat), (sl 12) - k = j → k ≤ (sl 12) → pr_G g X mX8_finds.2.2.1 (pr_MQ g X (pr_R (some (.int (m_fi_r σ s t u))) T (rg_put I m 16 (m_fi σ s t u)) L) pr_no 0 0) 0 0 27 [.ref m, .int s, .int t, .int u, .int ((m_fi_it27 σ s t u k).2), .null] [] T (rg_put I m 16 (m_fi_it27 σ s t u k).1) L := by
      intro j
      induction j using Nat.strongRecOn with | ind j ih27 =>
      intro k hj27 hk27
      refine pr_iload hA dX8_finds_27 rfl ?_
      refine pr_iload_n hA dX8_finds_29 rfl ?_
      refine pr_icmp_eq hA 95 dX8_finds_30 (by decide) (fun c_30 => ?_) (fun c_30 => ?_)
      · have hst := st_m_fi_it27_30 c_30 ((sl 12) - k)
        rw [show k + ((sl 12) - k) = (sl 12) from by omega] at hst
        refine pr_lessL (ls' := [.ref m, .int s, .int t, .int u, .int ((m_fi_it27 σ s t u k).2), .null]) ⟨.inr rfl, .inr rfl, .inr rfl, .inr rfl, .inr rfl, .inl rfl, trivial⟩ ?_
        rw [← hst]
        refine pr_iconst hA (1) dX8_finds_95 (by decide) ?_
        exact pr_ireturn hA rfl (pr_nb (by first | decide | (split <;> simp))) (Nat.zero_le _) (Nat.zero_le _) dX8_finds_96 ⟨(by simp only [m_fi_r, if_neg c_19]), rfl, (by simp only [m_fi, if_neg c_19]), rfl⟩
      · refine pr_iconst hA (0) dX8_finds_33 (by decide) ?_
        refine pr_istore (ls' := [_, _, _, _, _, _]) hA dX8_finds_34 (by decide) rfl ?_
        have lp36 : ∀ (j k1 : Nat), (sl 23) - k1 = j → k1 ≤ (sl 23) → pr_G g X mX8_finds.2.2.1 (pr_MQ g X (pr_R (some (.int (m_fi_r σ s t u))) T (rg_put I m 16 (m_fi σ s t u)) L) pr_no 0 0) 0 0 36 [.ref m, .int s, .int t, .int u, .int ((m_fi_it27 σ s t u k).2), .int (m_fi_it36 σ (m_fi_it27 σ s t u k).1 s t u k ((m_fi_it27 σ s t u k).2) k1)] [] T (rg_put I m 16 (m_fi_it27 σ s t u k).1) L := by
          intro j
          induction j using Nat.strongRecOn with | ind j ih36 =>
          intro k1 hj36 hk36
          refine pr_iload_n hA dX8_finds_36 rfl ?_
          refine pr_iload hA dX8_finds_37 rfl ?_
          refine pr_callSi hA [.int u, .int (m_fi_it36 σ (m_fi_it27 σ s t u k).1 s t u k ((m_fi_it27 σ s t u k).2) k1)] (c_m_has (m := m) (σ := (m_fi_it27 σ s t u k).1) (s := u) (k := (m_fi_it36 σ (m_fi_it27 σ s t u k).1 s t u k ((m_fi_it27 σ s t u k).2) k1)) (pr_hl hA) hm) s_X8_213 rfl (by decide) (Nat.zero_le _) (Nat.zero_le _) rfl (Nat.le_of_ble_eq_true rfl) dX8_finds_39 ?_
          refine pr_if_eq hA 56 dX8_finds_42 (by decide) (fun c_42 => ?_) (fun c_42 => ?_)
          · refine pr_iinc (ls' := [_, _, _, _, _, _]) hA ((m_fi_it36 σ (m_fi_it27 σ s t u k).1 s t u k ((m_fi_it27 σ s t u k).2) k1) + Int32.ofInt (1)) dX8_finds_56 (by decide) rfl rfl rfl ?_
            refine pr_goto hA 36 dX8_finds_59 (by decide) ?_
            have hlt : k1 < (sl 23) := by
              rcases Nat.lt_or_ge k1 (sl 23) with hlt0 | hlt0
              · exact hlt0
              · have e : k1 = (sl 23) := by omega
                exact absurd (hin k c_30) (by rw [← e]; simp only [m_fi_it36_e, if_pos c_42]; decide)
            have hb := ih36 ((sl 23) - (k1 + 1)) (by omega) (k1 + 1) rfl (by omega)
            simp only [m_fi_it36, if_pos c_42] at hb
            exact hb
          · refine pr_aload_n hA dX8_finds_45 rfl ?_
            refine pr_iload hA dX8_finds_46 rfl ?_
            refine pr_iload hA dX8_finds_48 rfl ?_
            refine pr_callVi hA [.int (m_fi_it36 σ (m_fi_it27 σ s t u k).1 s t u k ((m_fi_it27 σ s t u k).2) k1), .int ((m_fi_it27 σ s t u k).2)] (c_m_onx (m := m) (σ := (m_fi_it27 σ s t u k).1) (y := (m_fi_it36 σ (m_fi_it27 σ s t u k).1 s t u k ((m_fi_it27 σ s t u k).2) k1)) (x := ((m_fi_it27 σ s t u k).2)) (pr_hl hA) hm (fi_I (σ := σ) (s := s) (t := t) (u := u) hI hs k (by omega)).1 (vp_in_mono (fi_y k1 (by omega)) (by omega)) (fi_I hI hs k (by omega)).2.2) v_X8_226 (mo_k0 hm) (by decide) rfl rfl rfl (by decide) (Nat.zero_le _) (Nat.zero_le _) rfl (Nat.le_of_ble_eq_true rfl) dX8_finds_50 ?_
            refine pr_if_ne hA 62 dX8_finds_53 (by decide) (fun c_53 => ?_) (fun c_53 => ?_)
            · have hst := st_m_fi_it36_53 c_42 c_53 ((sl 23) - k1)
              rw [show k1 + ((sl 23) - k1) = (sl 23) from by omega] at hst
              refine pr_lessL (ls' := [.ref m, .int s, .int t, .int u, .int ((m_fi_it27 σ s t u k).2), .int (m_fi_it36 σ (m_fi_it27 σ s t u k).1 s t u k ((m_fi_it27 σ s t u k).2) k1)]) ⟨.inr rfl, .inr rfl, .inr rfl, .inr rfl, .inr rfl, .inr rfl, trivial⟩ ?_
              rw [← hst]
              refine pr_aload_n hA dX8_finds_62 rfl ?_
              refine pr_getR hA f_X8_38 rfl (mo_k0 hm) (mo_f0_16 hm) dX8_finds_63 ?_
              refine pr_aload_n hA dX8_finds_66 rfl ?_
              refine pr_getE (v := ((m_fi_it27 σ s t u k).1 0 17)) hA f_X8_223 rfl (mo_k0 hm) (rg_val0 (by decide)) dX8_finds_67 ?_
              refine pr_iload hA dX8_finds_70 rfl ?_
              refine pr_iastE (I' := (rg_put I m 16 (pr_up (m_fi_it27 σ s t u k).1 10 (((m_fi_it27 σ s t u k).1 0 17).toNatClampNeg) (m_fi_it36 σ (m_fi_it27 σ s t u k).1 s t u k ((m_fi_it27 σ s t u k).2) (sl 23))))) hA (mo_k10 hm) (vp_in_mono (fi_I hI hs k (by omega)).2.1 (fi_lt hend c_30 hk27)) (rg_up (by decide)) dX8_finds_72 ?_
              refine pr_aload_n hA dX8_finds_73 rfl ?_
              refine pr_dup hA dX8_finds_74 rfl ?_
              refine pr_getE (v := ((m_fi_it27 σ s t u k).1 0 17)) hA f_X8_223 rfl (mo_k0 hm) ((rg_val0 (by decide)).trans (pr_upv (by decide))) dX8_finds_75 ?_
              refine pr_iconst hA (1) dX8_finds_78 (by decide) ?_
              refine pr_iadd hA dX8_finds_79 ?_
              refine pr_putE (I' := (rg_put I m 16 (pr_up (pr_up (m_fi_it27 σ s t u k).1 10 (((m_fi_it27 σ s t u k).1 0 17).toNatClampNeg) (m_fi_it36 σ (m_fi_it27 σ s t u k).1 s t u k ((m_fi_it27 σ s t u k).2) (sl 23))) 0 17 (((m_fi_it27 σ s t u k).1 0 17) + (1 : Int32))))) hA f_X8_223 rfl (mo_k0 hm) (rg_up0 (by decide)) dX8_finds_80 ?_
              refine pr_aload_n hA dX8_finds_83 rfl ?_
              refine pr_iload hA dX8_finds_84 rfl ?_
              refine pr_iconst hA (1) dX8_finds_86 (by decide) ?_
              refine pr_callVi hA [.int (m_fi_it36 σ (m_fi_it27 σ s t u k).1 s t u k ((m_fi_it27 σ s t u k).2) (sl 23)), .int (1 : Int32)] (c_m_linkx (m := m) (x := (m_fi_it36 σ (m_fi_it27 σ s t u k).1 s t u k ((m_fi_it27 σ s t u k).2) (sl 23))) (c := 1) (σ := (pr_up (pr_up (m_fi_it27 σ s t u k).1 10 (((m_fi_it27 σ s t u k).1 0 17).toNatClampNeg) (m_fi_it36 σ (m_fi_it27 σ s t u k).1 s t u k ((m_fi_it27 σ s t u k).2) (sl 23))) 0 17 (((m_fi_it27 σ s t u k).1 0 17) + (1 : Int32)))) (pr_hl hA) hm (vp_in_mono (fi_y (sl 23) (by omega)) (by omega)) (by omega)) v_X8_204 (mo_k0 hm) (by decide) rfl rfl rfl (by decide) (Nat.zero_le _) (Nat.zero_le _) rfl (Nat.le_of_ble_eq_true rfl) dX8_finds_87 ?_
              rw [show ((pr_up (pr_up (m_fi_it27 σ s t u k).1 10 (((m_fi_it27 σ s t u k).1 0 17).toNatClampNeg) (m_fi_it36 σ (m_fi_it27 σ s t u k).1 s t u k ((m_fi_it27 σ s t u k).2) (sl 23))) 0 17 (((m_fi_it27 σ s t u k).1 0 17) + (1 : Int32))) 1 (96 + 7 * ((m_fi_it36 σ (m_fi_it27 σ s t u k).1 s t u k ((m_fi_it27 σ s t u k).2) (sl 23)).toNatClampNeg) + 1)) = (σ 1 (96 + 7 * ((m_fi_it36 σ (m_fi_it27 σ s t u k).1 s t u k ((m_fi_it27 σ s t u k).2) (sl 23)).toNatClampNeg) + 1)) from ((pr_upv (by decide)).trans ((pr_upv (by decide)).trans ((congrFun (fr_m_fi_it27 (by decide)) _).trans ((pr_upv (by decide)).trans (congrFun (fr_m_lp (by decide)) _)))))]
              refine pr_istore (ls' := [_, _, _, _, _, _]) hA dX8_finds_90 (by decide) rfl ?_
              refine pr_goto hA 27 dX8_finds_92 (by decide) ?_
              have hlt : k < (sl 12) := by
                rcases Nat.lt_or_ge k (sl 12) with hlt0 | hlt0
                · exact hlt0
                · have e : k = (sl 12) := by omega
                  exact absurd hend (by rw [← e]; simp only [m_fi_it27_e, if_neg c_30]; decide)
              have hb := ih27 ((sl 12) - (k + 1)) (by omega) (k + 1) rfl (by omega)
              simp only [m_fi_it27, if_neg c_30] at hb
              exact pr_lessL (ls' := [.ref m, .int s, .int t, .int u, .int (σ 1 (96 + 7 * ((m_fi_it36 σ (m_fi_it27 σ s t u k).1 s t u k ((m_fi_it27 σ s t u k).2) (sl 23)).toNatClampNeg) + 1)), .null]) ⟨.inr rfl, .inr rfl, .inr rfl, .inr rfl, .inr rfl, .inl rfl, trivial⟩ hb
            · refine pr_iinc (ls' := [_, _, _, _, _, _]) hA ((m_fi_it36 σ (m_fi_it27 σ s t u k).1 s t u k ((m_fi_it27 σ s t u k).2) k1) + Int32.ofInt (1)) dX8_finds_56 (by decide) rfl rfl rfl ?_
              refine pr_goto hA 36 dX8_finds_59 (by decide) ?_
              have hlt : k1 < (sl 23) := by
                rcases Nat.lt_or_ge k1 (sl 23) with hlt0 | hlt0
                · exact hlt0
                · have e : k1 = (sl 23) := by omega
                  exact absurd (hin k c_30) (by rw [← e]; simp only [m_fi_it36_e, if_neg c_42, if_pos c_53]; decide)
              have hb := ih36 ((sl 23) - (k1 + 1)) (by omega) (k1 + 1) rfl (by omega)
              simp only [m_fi_it36, if_neg c_42, if_pos c_53] at hb
              exact hb
        exact (lp36 ((sl 23) - 0) 0 rfl (by omega))
    exact (lp27 ((sl 12) - 0) 0 rfl (by omega))
  · refine pr_iconst hA (0) dX8_finds_22 (by decide) ?_
    exact pr_ireturn hA rfl (pr_nb (by first | decide | (split <;> simp))) (Nat.zero_le _) (Nat.zero_le _) dX8_finds_23 ⟨(by simp only [m_fi_r, if_pos c_19]), rfl, (by simp only [m_fi, if_pos c_19]), rfl⟩

theorem fr_m_fi {σ : pr_I} {s : Int32} {t : Int32} {u : Int32} {o : Nat} (hms : ∀ m ∈ ([0, 8, 9, 10] : List Nat), o ≠ m) : m_fi σ s t u o = σ o := by
  unfold m_fi
  simp only [List.mem_cons, List.not_mem_nil, or_false, forall_eq_or_imp, forall_eq] at hms
  by_cases c_19 : ((m_lp σ t u) 8 s.toNatClampNeg) = (1000000000 : Int32)
  · refine (congrFun (if_pos c_19) o).trans ?_
    rw [pr_up_ne (by omega), fr_m_lp (by simp only [List.mem_cons, List.not_mem_nil, or_false, forall_eq_or_imp, forall_eq]; omega)]
  · refine (congrFun (if_neg c_19) o).trans ?_
    rw [fr_m_fi_it27 (by simp only [List.mem_cons, List.not_mem_nil, or_false, forall_eq_or_imp, forall_eq]; omega), pr_up_ne (by omega), fr_m_lp (by simp only [List.mem_cons, List.not_mem_nil, or_false, forall_eq_or_imp, forall_eq]; omega)]

