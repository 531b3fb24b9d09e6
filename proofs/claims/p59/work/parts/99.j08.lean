/-! THE LAW'S NUMBERS AND ITS TEXT -/
def lcell (g : pr_C) (i : Nat) : Nat := if pr_scn g = 0 then 0 else ((pr_scr g (i % pr_scn g)).toInt.tmod 1000).natAbs
theorem ltm (x : Int) : (x.tmod 1000).natAbs < 1000 := by
  have h1 := Int.tmod_lt_of_pos x (show (0 : Int) < 1000 by decide)
  have h2 := Int.lt_tmod_of_pos x (show (0 : Int) < 1000 by decide)
  omega
theorem lcell_lt (g : pr_C) (i : Nat) : lcell g i < 1000 := by
  unfold lcell
  split
  · decide
  · exact ltm _
theorem jmod {i n : Nat} (hi : i < 2 ^ 31) (hn : n < 2 ^ 31) : nI i - nI i / nI n * nI n = nI (i % n) := by
  rw [irem_eq_mod]
  apply Int32.toInt_inj.mp
  have hm : i % n ≤ i := Nat.mod_le _ _
  rw [Int32.toInt_mod, Int.tmod_eq_emod_of_nonneg (by rw [nI_toInt hi]; omega), nI_toInt hi, nI_toInt hn, nI_toInt (by omega)]
  rfl
theorem jabs (x : Int32) : (if 0 ≤ (x - x / 1000 * 1000) then (x - x / 1000 * 1000) else 0 - (x - x / 1000 * 1000)) = nI ((x.toInt.tmod 1000).natAbs) := by
  have hb := ltm x.toInt
  have h1 := Int.tmod_lt_of_pos x.toInt (show (0 : Int) < 1000 by decide)
  have h2 := Int.lt_tmod_of_pos x.toInt (show (0 : Int) < 1000 by decide)
  have e1 : ∀ a b : Int32, a - a / b * b = a % b := irem_eq_mod
  rw [e1]
  have e : (x % (1000 : Int32)).toInt = x.toInt.tmod 1000 := Int32.toInt_mod x 1000
  apply Int32.toInt_inj.mp
  rw [nI_toInt (by omega)]
  by_cases c : (0 : Int32) ≤ x % 1000
  · rw [if_pos c, e]
    rw [Int32.le_iff_toInt_le, e, Int32.toInt_zero] at c
    omega
  · rw [if_neg c]
    rw [Int32.le_iff_toInt_le, e, Int32.toInt_zero] at c
    rw [i_sub (by rw [e, Int32.toInt_zero]; omega) (by rw [e, Int32.toInt_zero]; omega), e, Int32.toInt_zero]
    omega
set_option maxRecDepth 100000 in
set_option maxHeartbeats 400000 in
theorem c_cell {g : pr_C} {l : Launch} (hl : l.stackTraces = false) {T : pr_T} {I : pr_I} {L : pr_L} {i : Nat} (hN : pr_scn g ≤ 260) (hi : i < 1000) : pr_M g l 2 0 0 mL_cell [.ref (pr_sa g 5), .int (nI i)] T I L (pr_R (some (.int (nI (lcell g i)))) T I L) pr_no := by
  refine pr_ofG (by decide) rfl hl (Nat.le_of_ble_eq_true rfl) (fun X hA hX hXn hXt => ?_)
  subst hX
  show pr_G g X mL_cell.2.2.1 _ 0 0 0 [.ref (pr_sa g 5), .int (nI i)] [] T I L
  refine pr_aload_n hA dL_cell_0 rfl ?_
  refine pr_xlen hA dL_cell_1 ?_
  refine pr_if_ne hA 9 dL_cell_2 (by decide) (fun c9 => ?_) (fun c9 => ?_)
  · have h0 : pr_scn g ≠ 0 := fun e => c9 (by rw [e]; rfl)
    have hlt : i % pr_scn g < pr_scn g := Nat.mod_lt _ (by omega)
    refine pr_aload_n hA dL_cell_9 rfl ?_
    refine pr_iload_n hA dL_cell_10 rfl ?_
    refine pr_aload_n hA dL_cell_11 rfl ?_
    refine pr_xlen hA dL_cell_12 ?_
    refine pr_irem (z := nI (i % pr_scn g)) hA dL_cell_13 c9 (jmod (by omega) (by omega)) ?_
    refine pr_xald hA (nI_vin hlt (by omega)) dL_cell_14 ?_
    rw [nI_clamp (by omega)]
    refine pr_sipush hA ((1000 : Int32)) dL_cell_15 (by decide) ?_
    refine pr_irem hA dL_cell_18 (by decide) rfl ?_
    refine pr_mabs hA rfl ⟨kM_L_7, kT_J9_abs_0f7a4, kZ_J9, kO_J9_abs_0f7a4⟩ (by decide) (Nat.zero_le _) (Nat.zero_le _) (Nat.le_of_ble_eq_true rfl) dL_cell_19 ?_
    refine pr_topE (z := nI (lcell g i)) ((jabs _).trans (by unfold lcell; rw [if_neg h0])) ?_
    exact pr_ireturn hA rfl rfl (Nat.zero_le _) (Nat.zero_le _) dL_cell_22 ⟨rfl, rfl, rfl, rfl⟩
  · have h0 : pr_scn g = 0 := (nI_eq (by omega) (by decide)).mp (c9.trans jnI0.symm)
    have e0 : lcell g i = 0 := by unfold lcell; rw [if_pos h0]
    refine pr_iconst hA (nI 0) dL_cell_5 (by decide) ?_
    refine pr_goto hA 22 dL_cell_6 (by decide) ?_
    exact pr_ireturn hA rfl rfl (Nat.zero_le _) (Nat.zero_le _) dL_cell_22 ⟨by rw [e0], rfl, rfl, rfl⟩
def lf (g : pr_C) (l : Nat) : Nat := if l < 4 then l else lcell g (5 + 4 * l) % 5
def lt (g : pr_C) (l : Nat) : Nat := if l < 4 then l + 1 else (lf g l + 1 + lcell g (6 + 4 * l) % 4) % 5
def lhd (g : pr_C) : List Nat := ((((((([] ++ jlit 0) ++ jdec (1 + lcell g 0 % 40)) ++ jlit 1) ++ jdec (1 + lcell g 1 % 9)) ++ jlit 2) ++ jdec (1 + lcell g 2 % 4)) ++ jlit 3) ++ jdec (lcell g 3 % 101)
def lnd (g : pr_C) : Nat → List Nat
  | 0 => lhd g
  | k + 1 => (lnd g k ++ jlit 4) ++ [97 + k]
def llk (g : pr_C) : Nat → List Nat
  | 0 => lnd g 5
  | l + 1 => (((((((((llk g l ++ jlit 5) ++ [97 + lf g l]) ++ [32]) ++ [97 + lt g l]) ++ [32]) ++ jdec (lcell g (7 + 4 * l) % 60)) ++ [32]) ++ jdec (lcell g (8 + 4 * l) % 20)) ++ [32]) ++ jdec (1 + lcell g (8 + 4 * l) % 4)
theorem jdec_3 (v : Nat) : (jdec v).length ≤ 3 := by rw [jdec_len]; exact jdg_3 v
theorem lhd_len (g : pr_C) : (lhd g).length ≤ 39 := by
  have a := jdec_3 (1 + lcell g 0 % 40)
  have b := jdec_3 (1 + lcell g 1 % 9)
  have c := jdec_3 (1 + lcell g 2 % 4)
  have d := jdec_3 (lcell g 3 % 101)
  unfold lhd
  simp only [List.length_append, List.length_nil]
  have e0 : (jlit 0).length = 5 := rfl
  have e1 : (jlit 1).length = 7 := rfl
  have e2 : (jlit 2).length = 7 := rfl
  have e3 : (jlit 3).length = 8 := rfl
  omega
theorem lnd_len (g : pr_C) : ∀ k, (lnd g k).length ≤ 39 + 7 * k
  | 0 => lhd_len g
  | k + 1 => by
    have ih := lnd_len g k
    have e4 : (jlit 4).length = 6 := rfl
    unfold lnd
    simp only [List.length_append, List.length_cons, List.length_nil]
    omega
theorem llk_len (g : pr_C) : ∀ l, (llk g l).length ≤ 74 + 21 * l
  | 0 => lnd_len g 5
  | l + 1 => by
    have ih := llk_len g l
    have a := jdec_3 (lcell g (7 + 4 * l) % 60)
    have b := jdec_3 (lcell g (8 + 4 * l) % 20)
    have c := jdec_3 (1 + lcell g (8 + 4 * l) % 4)
    have e5 : (jlit 5).length = 6 := rfl
    unfold llk
    simp only [List.length_append, List.length_cons, List.length_nil]
    omega
theorem lf_lt (g : pr_C) {l : Nat} : lf g l < 5 := by
  unfold lf
  split
  · omega
  · exact Nat.mod_lt _ (by decide)
theorem lt_lt (g : pr_C) {l : Nat} : lt g l < 5 := by
  unfold lt
  split
  · omega
  · exact Nat.mod_lt _ (by decide)
/-- what text() leaves: the text at a new string, all that was below as it was -/
def lTx (tx : List Nat) (T : pr_T) (I : pr_I) (L : pr_L) : Option Value → pr_T → pr_I → pr_L → Prop := fun v' T' I' L' => ∃ s u, v' = some (.ref s) ∧ (T.1 ≤ T'.1 ∧ ∀ a, a < T.1 → T'.2.1 a = T.2.1 a ∧ T'.2.2 a = T.2.2 a ∧ I' a = I a) ∧ L' = L ∧ jO s u tx T' I' ∧ T.1 ≤ s ∧ s < T'.1 ∧ T.1 ≤ u ∧ u < T'.1
set_option maxRecDepth 100000 in
set_option maxHeartbeats 400000 in
theorem c_text {g : pr_C} {l : Launch} (hl : l.stackTraces = false) {T : pr_T} {I : pr_I} {L : pr_L} (hN : pr_scn g ≤ 260) : pr_M g l 11 200 120000 mL_text [.ref (pr_sa g 5)] T I L (lTx (llk g 9) T I L) pr_no := by
  refine pr_ofG (by decide) rfl hl (Nat.le_of_ble_eq_true rfl) (fun X hA hX hXn hXt => ?_)
  subst hX
  show pr_G g X mL_text.2.2.1 _ 0 0 0 [.ref (pr_sa g 5), .null, .null, .null, .null] [] T I L
  obtain ⟨z, hz⟩ : ∃ z, T.1 = z := ⟨_, rfl⟩
  refine pr_newJ hA jC8 (List.mem_filter.mpr ⟨by decide +kernel, by decide +kernel⟩) kA_J4 kZ_J4 (by omega) (by omega) dL_text_0 ?_
  refine pr_dup hA dL_text_3 rfl ?_
  refine pr_newJ hA jC8 (List.mem_filter.mpr ⟨by decide +kernel, by decide +kernel⟩) kA_J4 kZ_J4 (by omega) (by omega) dL_text_4 ?_
  refine pr_dup hA dL_text_7 rfl ?_
  rw [show (pr_new T 8 0).1 = z + 1 by rw [← hz]; rfl, hz]
  obtain ⟨T0, hT0⟩ : ∃ T0, pr_new (pr_new T 8 0) 8 0 = T0 := ⟨_, rfl⟩
  obtain ⟨I0, hI0⟩ : ∃ I0, pr_row (pr_row I z (fun _ => 0)) (z + 1) (fun _ => 0) = I0 := ⟨_, rfl⟩
  have h01 : T0.1 = z + 2 := by rw [← hT0, ← hz]; rfl
  have hk0 : T0.2.1 z = (8, 0) := by rw [← hT0, ← hz]; show (if T.1 = T.1 + 1 then _ else if T.1 = T.1 then _ else _) = _; rw [if_neg (by omega), if_pos rfl]
  have hk1 : T0.2.1 (z + 1) = (8, 0) := by rw [← hT0, ← hz]; exact if_pos rfl
  have hI00 : I0 z = fun _ => 0 := by rw [← hI0, pr_row_ne (by omega), pr_row_eq]
  have hI01 : I0 (z + 1) = fun _ => 0 := by rw [← hI0, pr_row_eq]
  have hlow : ∀ a, a < z → T0.2.1 a = T.2.1 a ∧ T0.2.2 a = T.2.2 a ∧ I0 a = I a := fun a ha => by
    rw [← hT0, ← hI0]
    refine ⟨?_, ?_, by rw [pr_row_ne (by omega), pr_row_ne (by omega)]⟩
    · show (if a = T.1 + 1 then _ else if a = T.1 then _ else _) = _
      rw [if_neg (by omega), if_neg (by omega)]
    · funext j
      show (if a = T.1 + 1 then _ else if a = T.1 then _ else _) = _
      rw [if_neg (by omega), if_neg (by omega)]
  rw [hT0, hI0]
  have q1 := jdg_3 (1 + lcell g 0 % 40)
  have q2 := jdg_3 (1 + lcell g 1 % 9)
  have q3 := jdg_3 (1 + lcell g 2 % 4)
  refine pr_callI hA rfl (As := []) (c_jIN (pr_hl hA) hk1 (by omega) hI01) b_L_34 kI_J4_init_da8c8 rfl rfl rfl (by decide) (by omega) (by omega) rfl (Nat.le_of_ble_eq_true rfl) dL_text_8 (fun v9 T1 I1 L1 q9 => ?_)
  obtain ⟨rfl, F1, rfl, j1⟩ := q9
  rw [h01] at F1 j1
  refine pr_widen (cs' := 3) (sl' := 24) (by omega) (by omega) ?_
  refine pr_lds (k := 10) (tx := "hold ") hA (by decide +kernel) dL_text_11 ?_
  refine pr_callV hA rfl (As := [.ref (pr_ak g 10)]) (c_jAS (pr_hl hA) j1 (Or.inl ⟨0, by decide, rfl, rfl⟩) (by simp only [List.length_append, List.length_nil, jdec_len, show (jlit 0).length = 5 from rfl, show (jlit 1).length = 7 from rfl, show (jlit 2).length = 7 from rfl, show (jlit 3).length = 8 from rfl]; omega)) v_L_37 j1.k (by decide) (q0 := (RJ4, TJ4, 4)) rfl rfl rfl (by decide) (by omega) (by omega) rfl (Nat.le_of_ble_eq_true rfl) dL_text_13 (fun v9 T2 I2 L2 q9 => ?_) (fun _ _ _ _ q => q.elim)
  obtain ⟨rfl, E2, rfl, j2⟩ := q9
  have F2 := F1.trans E2
  refine pr_widen (cs' := 4) (sl' := 724) (by omega) (by omega) ?_
  refine pr_iconst hA (nI 1) dL_text_16 (by decide) ?_
  refine pr_aload_n hA dL_text_17 rfl ?_
  refine pr_iconst hA (nI 0) dL_text_18 (by decide) ?_
  refine pr_callSi hA [.ref (pr_sa g 5), .int (nI (0))] (c_cell (pr_hl hA) hN (by omega)) s_L_40 rfl (by decide) (by omega) (by omega) rfl (Nat.le_of_ble_eq_true rfl) dL_text_19 ?_
  refine pr_bipush hA (nI 40) dL_text_22 (by decide) ?_
  refine pr_irem (z := nI (lcell g (0) % 40)) hA dL_text_24 (by decide) (jmod (by have := lcell_lt g (0); omega) (by decide)) ?_
  refine pr_iadd hA dL_text_25 ?_
  refine pr_topE (z := nI (1 + lcell g 0 % 40)) (nI_add _ _) ?_
  refine pr_callV hA rfl (As := [.int (nI (1 + lcell g 0 % 40))]) (c_jAI (pr_hl hA) j2 (by simp only [List.length_append, List.length_nil, jdec_len, show (jlit 0).length = 5 from rfl, show (jlit 1).length = 7 from rfl, show (jlit 2).length = 7 from rfl, show (jlit 3).length = 8 from rfl]; omega) (by omega)) v_L_46 j2.k (by decide) (q0 := (RJ4, TJ4, 4)) rfl rfl rfl (by decide) (by omega) (by omega) rfl (Nat.le_of_ble_eq_true rfl) dL_text_26 (fun v9 T3 I3 L3 q9 => ?_) (fun _ _ _ _ q => q.elim)
  obtain ⟨rfl, E3, rfl, j3⟩ := q9
  have F3 := F2.trans E3
  refine pr_widen (cs' := 5) (sl' := 1424) (by omega) (by omega) ?_
  refine pr_lds (k := 11) (tx := ";retry ") hA (by decide +kernel) dL_text_29 ?_
  refine pr_callV hA rfl (As := [.ref (pr_ak g 11)]) (c_jAS (pr_hl hA) j3 (Or.inl ⟨1, by decide, rfl, rfl⟩) (by simp only [List.length_append, List.length_nil, jdec_len, show (jlit 0).length = 5 from rfl, show (jlit 1).length = 7 from rfl, show (jlit 2).length = 7 from rfl, show (jlit 3).length = 8 from rfl]; omega)) v_L_37 j3.k (by decide) (q0 := (RJ4, TJ4, 4)) rfl rfl rfl (by decide) (by omega) (by omega) rfl (Nat.le_of_ble_eq_true rfl) dL_text_31 (fun v9 T4 I4 L4 q9 => ?_) (fun _ _ _ _ q => q.elim)
  obtain ⟨rfl, E4, rfl, j4⟩ := q9
  have F4 := F3.trans E4
  refine pr_widen (cs' := 6) (sl' := 2124) (by omega) (by omega) ?_
  refine pr_iconst hA (nI 1) dL_text_34 (by decide) ?_
  refine pr_aload_n hA dL_text_35 rfl ?_
  refine pr_iconst hA (nI 1) dL_text_36 (by decide) ?_
  refine pr_callSi hA [.ref (pr_sa g 5), .int (nI (1))] (c_cell (pr_hl hA) hN (by omega)) s_L_40 rfl (by decide) (by omega) (by omega) rfl (Nat.le_of_ble_eq_true rfl) dL_text_37 ?_
  refine pr_bipush hA (nI 9) dL_text_40 (by decide) ?_
  refine pr_irem (z := nI (lcell g (1) % 9)) hA dL_text_42 (by decide) (jmod (by have := lcell_lt g (1); omega) (by decide)) ?_
  refine pr_iadd hA dL_text_43 ?_
  refine pr_topE (z := nI (1 + lcell g 1 % 9)) (nI_add _ _) ?_
  refine pr_callV hA rfl (As := [.int (nI (1 + lcell g 1 % 9))]) (c_jAI (pr_hl hA) j4 (by simp only [List.length_append, List.length_nil, jdec_len, show (jlit 0).length = 5 from rfl, show (jlit 1).length = 7 from rfl, show (jlit 2).length = 7 from rfl, show (jlit 3).length = 8 from rfl]; omega) (by omega)) v_L_46 j4.k (by decide) (q0 := (RJ4, TJ4, 4)) rfl rfl rfl (by decide) (by omega) (by omega) rfl (Nat.le_of_ble_eq_true rfl) dL_text_44 (fun v9 T5 I5 L5 q9 => ?_) (fun _ _ _ _ q => q.elim)
  obtain ⟨rfl, E5, rfl, j5⟩ := q9
  have F5 := F4.trans E5
  refine pr_widen (cs' := 7) (sl' := 2824) (by omega) (by omega) ?_
  refine pr_lds (k := 12) (tx := ";tries ") hA (by decide +kernel) dL_text_47 ?_
  refine pr_callV hA rfl (As := [.ref (pr_ak g 12)]) (c_jAS (pr_hl hA) j5 (Or.inl ⟨2, by decide, rfl, rfl⟩) (by simp only [List.length_append, List.length_nil, jdec_len, show (jlit 0).length = 5 from rfl, show (jlit 1).length = 7 from rfl, show (jlit 2).length = 7 from rfl, show (jlit 3).length = 8 from rfl]; omega)) v_L_37 j5.k (by decide) (q0 := (RJ4, TJ4, 4)) rfl rfl rfl (by decide) (by omega) (by omega) rfl (Nat.le_of_ble_eq_true rfl) dL_text_49 (fun v9 T6 I6 L6 q9 => ?_) (fun _ _ _ _ q => q.elim)
  obtain ⟨rfl, E6, rfl, j6⟩ := q9
  have F6 := F5.trans E6
  refine pr_widen (cs' := 8) (sl' := 3524) (by omega) (by omega) ?_
  refine pr_iconst hA (nI 1) dL_text_52 (by decide) ?_
  refine pr_aload_n hA dL_text_53 rfl ?_
  refine pr_iconst hA (nI 2) dL_text_54 (by decide) ?_
  refine pr_callSi hA [.ref (pr_sa g 5), .int (nI (2))] (c_cell (pr_hl hA) hN (by omega)) s_L_40 rfl (by decide) (by omega) (by omega) rfl (Nat.le_of_ble_eq_true rfl) dL_text_55 ?_
  refine pr_iconst hA (nI 4) dL_text_58 (by decide) ?_
  refine pr_irem (z := nI (lcell g (2) % 4)) hA dL_text_59 (by decide) (jmod (by have := lcell_lt g (2); omega) (by decide)) ?_
  refine pr_iadd hA dL_text_60 ?_
  refine pr_topE (z := nI (1 + lcell g 2 % 4)) (nI_add _ _) ?_
  refine pr_callV hA rfl (As := [.int (nI (1 + lcell g 2 % 4))]) (c_jAI (pr_hl hA) j6 (by simp only [List.length_append, List.length_nil, jdec_len, show (jlit 0).length = 5 from rfl, show (jlit 1).length = 7 from rfl, show (jlit 2).length = 7 from rfl, show (jlit 3).length = 8 from rfl]; omega) (by omega)) v_L_46 j6.k (by decide) (q0 := (RJ4, TJ4, 4)) rfl rfl rfl (by decide) (by omega) (by omega) rfl (Nat.le_of_ble_eq_true rfl) dL_text_61 (fun v9 T7 I7 L7 q9 => ?_) (fun _ _ _ _ q => q.elim)
  obtain ⟨rfl, E7, rfl, j7⟩ := q9
  have F7 := F6.trans E7
  refine pr_widen (cs' := 9) (sl' := 4224) (by omega) (by omega) ?_
  refine pr_lds (k := 13) (tx := ";expire ") hA (by decide +kernel) dL_text_64 ?_
  refine pr_callV hA rfl (As := [.ref (pr_ak g 13)]) (c_jAS (pr_hl hA) j7 (Or.inl ⟨3, by decide, rfl, rfl⟩) (by simp only [List.length_append, List.length_nil, jdec_len, show (jlit 0).length = 5 from rfl, show (jlit 1).length = 7 from rfl, show (jlit 2).length = 7 from rfl, show (jlit 3).length = 8 from rfl]; omega)) v_L_37 j7.k (by decide) (q0 := (RJ4, TJ4, 4)) rfl rfl rfl (by decide) (by omega) (by omega) rfl (Nat.le_of_ble_eq_true rfl) dL_text_66 (fun v9 T8 I8 L8 q9 => ?_) (fun _ _ _ _ q => q.elim)
  obtain ⟨rfl, E8, rfl, j8⟩ := q9
  have F8 := F7.trans E8
  refine pr_widen (cs' := 10) (sl' := 4924) (by omega) (by omega) ?_
  refine pr_aload_n hA dL_text_69 rfl ?_
  refine pr_iconst hA (nI 3) dL_text_70 (by decide) ?_
  refine pr_callSi hA [.ref (pr_sa g 5), .int (nI (3))] (c_cell (pr_hl hA) hN (by omega)) s_L_40 rfl (by decide) (by omega) (by omega) rfl (Nat.le_of_ble_eq_true rfl) dL_text_71 ?_
  refine pr_bipush hA (nI 101) dL_text_74 (by decide) ?_
  refine pr_irem (z := nI (lcell g (3) % 101)) hA dL_text_76 (by decide) (jmod (by have := lcell_lt g (3); omega) (by decide)) ?_
  refine pr_callV hA rfl (As := [.int (nI (lcell g 3 % 101))]) (c_jAI (pr_hl hA) j8 (by simp only [List.length_append, List.length_nil, jdec_len, show (jlit 0).length = 5 from rfl, show (jlit 1).length = 7 from rfl, show (jlit 2).length = 7 from rfl, show (jlit 3).length = 8 from rfl]; omega) (by omega)) v_L_46 j8.k (by decide) (q0 := (RJ4, TJ4, 4)) rfl rfl rfl (by decide) (by omega) (by omega) rfl (Nat.le_of_ble_eq_true rfl) dL_text_77 (fun v9 T9 I9 L9 q9 => ?_) (fun _ _ _ _ q => q.elim)
  obtain ⟨rfl, E9, rfl, j9⟩ := q9
  have F9 := F8.trans E9
  refine pr_widen (cs' := 11) (sl' := 5624) (by omega) (by omega) ?_
  have h0z : T9.2.1 z = (8, 0) := (F9.2 z (by omega) (by omega)).1.trans hk0
  have hIz : I9 z = fun _ => 0 := (F9.2 z (by omega) (by omega)).2.2.trans hI00
  have ht9 : z + 2 ≤ T9.1 := by rw [← h01]; exact F9.1
  refine pr_callV hA rfl (As := []) (c_jTS (pr_hl hA) j9) v_L_55 j9.k (by decide) (q0 := (RJ4, TJ4, 4)) rfl rfl rfl (by decide) (by omega) (by omega) rfl (Nat.le_of_ble_eq_true rfl) dL_text_80 (fun v9 Ts Is Ls q9 => ?_) (fun _ _ _ _ q => q.elim)
  obtain ⟨rfl, Es, rfl, u, jo, hu, hsT, huT⟩ := q9
  have hsl : Es.1 = Es.1 := rfl
  have hzs : Ts.2.1 z = (8, 0) := (Es.2 z (by omega) (by omega)).1.trans h0z
  have hIs : Is z = fun _ => 0 := (Es.2 z (by omega) (by omega)).2.2.trans hIz
  have hlowS : ∀ a, a < z → Ts.2.1 a = T.2.1 a ∧ Ts.2.2 a = T.2.2 a ∧ Is a = I a := fun a ha => by
    obtain ⟨a1, a2, a3⟩ := hlow a ha
    obtain ⟨b1, b2, b3⟩ := F9.2 a (by omega) (by omega)
    obtain ⟨c1, c2, c3⟩ := Es.2 a (by omega) (by omega)
    exact ⟨c1.trans (b1.trans a1), c2.trans (b2.trans a2), c3.trans (b3.trans a3)⟩
  have hl9 : (lhd g).length ≤ 39 := lhd_len g
  refine pr_callI hA rfl (As := [.ref T9.1]) (c_jIS (pr_hl hA) hzs (by omega) hIs (Or.inr ⟨u, jo, hsT, hu⟩) (show (lhd g).length ≤ 100 by omega)) b_L_59 kI_J4_init_a7421 rfl rfl rfl (by decide) (by omega) (by omega) rfl (Nat.le_of_ble_eq_true rfl) dL_text_83 (fun v9 Ta Ia La q9 => ?_)
  obtain ⟨rfl, Fa, rfl, ja⟩ := q9
  refine pr_widen (cs' := 20) (sl' := 9000) (by omega) (by omega) ?_
  obtain ⟨y, hy⟩ : ∃ y, Ts.1 = y := ⟨_, rfl⟩
  rw [hy] at Fa ja
  have hlowA : ∀ a, a < z → Ta.2.1 a = T.2.1 a ∧ Ta.2.2 a = T.2.2 a ∧ Ia a = I a := fun a ha => by
    obtain ⟨a1, a2, a3⟩ := hlowS a ha
    obtain ⟨b1, b2, b3⟩ := Fa.2 a (by omega) (by omega)
    exact ⟨b1.trans a1, b2.trans a2, b3.trans a3⟩
  have hya : z + 1 ≤ y := by omega
  have hTa : y ≤ Ta.1 := by rw [← hy]; exact Fa.1
  refine pr_astore_n (ls' := [_, .ref z, _, _, _]) hA dL_text_86 (by decide) rfl ?_
  refine pr_iconst hA (nI 0) dL_text_87 (by decide) ?_
  refine pr_istore_n (ls' := [_, _, .int (nI 0), _, _]) hA dL_text_88 (by decide) rfl ?_
  have hic : ∀ c, c < 128 → ((nI c).toUInt32 % 65536).toInt32 = nI c := by decide +kernel
  have hmu : ∀ a b : Nat, nI a * nI b = nI (a * b) := fun a b => (Int32.ofNat_mul a b).symm
  have lp2 : ∀ (j l : Nat) (T1 : pr_T) (I1 : pr_I) (v3 v4 : Value), 9 - l = j → l ≤ 9 → jF y z Ta Ia T1 I1 → jB y z (llk g l) 0 T1 I1 → pr_G g X mL_text.2.2.1 (pr_MQ g X (lTx (llk g 9) T I La) pr_no 200 120000) (40 + 11 * l) (17000 + 7700 * l) 117 [.ref (pr_sa g 5), .ref z, .int (nI l), .null, .null] [] T1 I1 La := by
    intro j
    induction j with
    | zero =>
      intro l T1 I1 v3 v4 hj hl F1 j1
      have hl9 : l = 9 := by omega
      subst hl9
      have hT1 : y ≤ T1.1 := Nat.le_trans hTa F1.1
      refine pr_iload_n hA dL_text_117 rfl ?_
      refine pr_bipush hA (nI 9) dL_text_118 (by decide) ?_
      refine pr_icmp_ge hA 274 dL_text_120 (by decide) (fun _ => ?_) (fun c9 => absurd ((nI_leI (by omega) (by omega)).mpr (by omega)) c9)
      refine pr_aload_n hA dL_text_274 rfl ?_
      refine pr_callV hA rfl (As := []) (c_jTS (pr_hl hA) j1) v_L_55 j1.k (by decide) (q0 := (RJ4, TJ4, 4)) rfl rfl rfl (by decide) (by omega) (by omega) rfl (Nat.le_of_ble_eq_true rfl) dL_text_275 (fun v9 Tz Iz Lz q9 => ?_) (fun _ _ _ _ q => q.elim)
      obtain ⟨rfl, Ez, rfl, uz, jz, huz, hsz, huT9⟩ := q9
      refine pr_areturn hA rfl (Or.inl ⟨_, rfl⟩) (by omega) (by omega) dL_text_278 ⟨_, uz, rfl, ⟨?_, fun a ha => ?_⟩, rfl, jz, by omega, hsz, by omega, huz⟩
      · have := Ez.1; omega
      · obtain ⟨a1, a2, a3⟩ := hlowA a (by omega)
        obtain ⟨b1, b2, b3⟩ := F1.2 a (by omega) (by omega)
        obtain ⟨c1, c2, c3⟩ := Ez.2 a (by omega) (by omega)
        exact ⟨c1.trans (b1.trans a1), c2.trans (b2.trans a2), c3.trans (b3.trans a3)⟩
    | succ j ih =>
      intro l T1 I1 v3 v4 hj hl F1 j1
      have hl9 : l < 9 := by omega
      have hT1 : y ≤ T1.1 := Nat.le_trans hTa F1.1
      have hlen := llk_len g l
      have hfl := lf_lt g (l := l)
      have htl := lt_lt g (l := l)
      have r1 := jdg_3 (lcell g (7 + 4 * l) % 60)
      have r2 := jdg_3 (lcell g (8 + 4 * l) % 20)
      have step : pr_G g X mL_text.2.2.1 (pr_MQ g X (lTx (llk g 9) T I La) pr_no 200 120000) (40 + 11 * l) (17000 + 7700 * l) 175 [.ref (pr_sa g 5), .ref z, .int (nI l), .int (nI (lf g l)), .int (nI (lt g l))] [] T1 I1 La := by
        refine pr_aload_n hA dL_text_175 rfl ?_
        refine pr_lds (k := 15) (tx := ";link ") hA (by decide +kernel) dL_text_176 ?_
        refine pr_callV hA rfl (As := [.ref (pr_ak g 15)]) (c_jAS (pr_hl hA) j1 (Or.inl ⟨5, by decide, rfl, rfl⟩) (by simp only [List.length_append, List.length_cons, List.length_nil, jdec_len, show (jlit 5).length = 6 from rfl, show (jlit 4).length = 6 from rfl]; omega)) v_L_37 j1.k (by decide) (q0 := (RJ4, TJ4, 4)) rfl rfl rfl (by decide) (by omega) (by omega) rfl (Nat.le_of_ble_eq_true rfl) dL_text_178 (fun v9 T2 I2 L2 q9 => ?_) (fun _ _ _ _ q => q.elim)
        obtain ⟨rfl, E2, e9, j2⟩ := q9; obtain rfl := e9.symm
        have F2 := F1.trans E2
        refine pr_widen (cs' := 40 + 11 * l + 1) (sl' := 17000 + 7700 * l + 700) (by omega) (by omega) ?_
        refine pr_bipush hA (nI 97) dL_text_181 (by decide) ?_
        refine pr_iload_n hA dL_text_183 rfl ?_
        refine pr_iadd hA dL_text_184 ?_
        refine pr_topE (z := nI (97 + lf g l)) (nI_add _ _) ?_
        refine pr_i2c hA dL_text_185 ?_
        refine pr_topE (z := nI (97 + lf g l)) (hic _ (by omega)) ?_
        refine pr_callV hA rfl (As := [.int (nI (97 + lf g l))]) (c_jAC (pr_hl hA) j2 (by simp only [List.length_append, List.length_cons, List.length_nil, jdec_len, show (jlit 5).length = 6 from rfl, show (jlit 4).length = 6 from rfl]; omega) (by omega)) v_L_64 j2.k (by decide) (q0 := (RJ4, TJ4, 4)) rfl rfl rfl (by decide) (by omega) (by omega) rfl (Nat.le_of_ble_eq_true rfl) dL_text_186 (fun v9 T3 I3 L3 q9 => ?_) (fun _ _ _ _ q => q.elim)
        obtain ⟨rfl, E3, e9, j3⟩ := q9; obtain rfl := e9.symm
        have F3 := F2.trans E3
        refine pr_widen (cs' := 40 + 11 * l + 2) (sl' := 17000 + 7700 * l + 1400) (by omega) (by omega) ?_
        refine pr_bipush hA (nI 32) dL_text_189 (by decide) ?_
        refine pr_callV hA rfl (As := [.int (nI (32))]) (c_jAC (pr_hl hA) j3 (by simp only [List.length_append, List.length_cons, List.length_nil, jdec_len, show (jlit 5).length = 6 from rfl, show (jlit 4).length = 6 from rfl]; omega) (by omega)) v_L_64 j3.k (by decide) (q0 := (RJ4, TJ4, 4)) rfl rfl rfl (by decide) (by omega) (by omega) rfl (Nat.le_of_ble_eq_true rfl) dL_text_191 (fun v9 T4 I4 L4 q9 => ?_) (fun _ _ _ _ q => q.elim)
        obtain ⟨rfl, E4, e9, j4⟩ := q9; obtain rfl := e9.symm
        have F4 := F3.trans E4
        refine pr_widen (cs' := 40 + 11 * l + 3) (sl' := 17000 + 7700 * l + 2100) (by omega) (by omega) ?_
        refine pr_bipush hA (nI 97) dL_text_194 (by decide) ?_
        refine pr_iload hA dL_text_196 rfl ?_
        refine pr_iadd hA dL_text_198 ?_
        refine pr_topE (z := nI (97 + lt g l)) (nI_add _ _) ?_
        refine pr_i2c hA dL_text_199 ?_
        refine pr_topE (z := nI (97 + lt g l)) (hic _ (by omega)) ?_
        refine pr_callV hA rfl (As := [.int (nI (97 + lt g l))]) (c_jAC (pr_hl hA) j4 (by simp only [List.length_append, List.length_cons, List.length_nil, jdec_len, show (jlit 5).length = 6 from rfl, show (jlit 4).length = 6 from rfl]; omega) (by omega)) v_L_64 j4.k (by decide) (q0 := (RJ4, TJ4, 4)) rfl rfl rfl (by decide) (by omega) (by omega) rfl (Nat.le_of_ble_eq_true rfl) dL_text_200 (fun v9 T5 I5 L5 q9 => ?_) (fun _ _ _ _ q => q.elim)
        obtain ⟨rfl, E5, e9, j5⟩ := q9; obtain rfl := e9.symm
        have F5 := F4.trans E5
        refine pr_widen (cs' := 40 + 11 * l + 4) (sl' := 17000 + 7700 * l + 2800) (by omega) (by omega) ?_
        refine pr_bipush hA (nI 32) dL_text_203 (by decide) ?_
        refine pr_callV hA rfl (As := [.int (nI (32))]) (c_jAC (pr_hl hA) j5 (by simp only [List.length_append, List.length_cons, List.length_nil, jdec_len, show (jlit 5).length = 6 from rfl, show (jlit 4).length = 6 from rfl]; omega) (by omega)) v_L_64 j5.k (by decide) (q0 := (RJ4, TJ4, 4)) rfl rfl rfl (by decide) (by omega) (by omega) rfl (Nat.le_of_ble_eq_true rfl) dL_text_205 (fun v9 T6 I6 L6 q9 => ?_) (fun _ _ _ _ q => q.elim)
        obtain ⟨rfl, E6, e9, j6⟩ := q9; obtain rfl := e9.symm
        have F6 := F5.trans E6
        refine pr_widen (cs' := 40 + 11 * l + 5) (sl' := 17000 + 7700 * l + 3500) (by omega) (by omega) ?_
        refine pr_aload_n hA dL_text_208 rfl ?_
        refine pr_bipush hA (nI 7) dL_text_209 (by decide) ?_
        refine pr_iconst hA (nI 4) dL_text_211 (by decide) ?_
        refine pr_iload_n hA dL_text_212 rfl ?_
        refine pr_imul hA dL_text_213 ?_
        refine pr_topE (z := nI (4 * l)) (hmu 4 l) ?_
        refine pr_iadd hA dL_text_214 ?_
        refine pr_topE (z := nI (7 + 4 * l)) (nI_add _ _) ?_
        refine pr_callSi hA [.ref (pr_sa g 5), .int (nI (7 + 4 * l))] (c_cell (pr_hl hA) hN (by omega)) s_L_40 rfl (by decide) (by omega) (by omega) rfl (Nat.le_of_ble_eq_true rfl) dL_text_215 ?_
        refine pr_bipush hA (nI 60) dL_text_218 (by decide) ?_
        refine pr_irem (z := nI (lcell g (7 + 4 * l) % 60)) hA dL_text_220 (by decide) (jmod (by have := lcell_lt g (7 + 4 * l); omega) (by decide)) ?_
        refine pr_callV hA rfl (As := [.int (nI (lcell g (7 + 4 * l) % 60))]) (c_jAI (pr_hl hA) j6 (by simp only [List.length_append, List.length_cons, List.length_nil, jdec_len, show (jlit 5).length = 6 from rfl, show (jlit 4).length = 6 from rfl]; omega) (by omega)) v_L_46 j6.k (by decide) (q0 := (RJ4, TJ4, 4)) rfl rfl rfl (by decide) (by omega) (by omega) rfl (Nat.le_of_ble_eq_true rfl) dL_text_221 (fun v9 T7 I7 L7 q9 => ?_) (fun _ _ _ _ q => q.elim)
        obtain ⟨rfl, E7, e9, j7⟩ := q9; obtain rfl := e9.symm
        have F7 := F6.trans E7
        refine pr_widen (cs' := 40 + 11 * l + 6) (sl' := 17000 + 7700 * l + 4200) (by omega) (by omega) ?_
        refine pr_bipush hA (nI 32) dL_text_224 (by decide) ?_
        refine pr_callV hA rfl (As := [.int (nI (32))]) (c_jAC (pr_hl hA) j7 (by simp only [List.length_append, List.length_cons, List.length_nil, jdec_len, show (jlit 5).length = 6 from rfl, show (jlit 4).length = 6 from rfl]; omega) (by omega)) v_L_64 j7.k (by decide) (q0 := (RJ4, TJ4, 4)) rfl rfl rfl (by decide) (by omega) (by omega) rfl (Nat.le_of_ble_eq_true rfl) dL_text_226 (fun v9 T8 I8 L8 q9 => ?_) (fun _ _ _ _ q => q.elim)
        obtain ⟨rfl, E8, e9, j8⟩ := q9; obtain rfl := e9.symm
        have F8 := F7.trans E8
        refine pr_widen (cs' := 40 + 11 * l + 7) (sl' := 17000 + 7700 * l + 4900) (by omega) (by omega) ?_
        refine pr_aload_n hA dL_text_229 rfl ?_
        refine pr_bipush hA (nI 8) dL_text_230 (by decide) ?_
        refine pr_iconst hA (nI 4) dL_text_232 (by decide) ?_
        refine pr_iload_n hA dL_text_233 rfl ?_
        refine pr_imul hA dL_text_234 ?_
        refine pr_topE (z := nI (4 * l)) (hmu 4 l) ?_
        refine pr_iadd hA dL_text_235 ?_
        refine pr_topE (z := nI (8 + 4 * l)) (nI_add _ _) ?_
        refine pr_callSi hA [.ref (pr_sa g 5), .int (nI (8 + 4 * l))] (c_cell (pr_hl hA) hN (by omega)) s_L_40 rfl (by decide) (by omega) (by omega) rfl (Nat.le_of_ble_eq_true rfl) dL_text_236 ?_
        refine pr_bipush hA (nI 20) dL_text_239 (by decide) ?_
        refine pr_irem (z := nI (lcell g (8 + 4 * l) % 20)) hA dL_text_241 (by decide) (jmod (by have := lcell_lt g (8 + 4 * l); omega) (by decide)) ?_
        refine pr_callV hA rfl (As := [.int (nI (lcell g (8 + 4 * l) % 20))]) (c_jAI (pr_hl hA) j8 (by simp only [List.length_append, List.length_cons, List.length_nil, jdec_len, show (jlit 5).length = 6 from rfl, show (jlit 4).length = 6 from rfl]; omega) (by omega)) v_L_46 j8.k (by decide) (q0 := (RJ4, TJ4, 4)) rfl rfl rfl (by decide) (by omega) (by omega) rfl (Nat.le_of_ble_eq_true rfl) dL_text_242 (fun v9 T9 I9 L9 q9 => ?_) (fun _ _ _ _ q => q.elim)
        obtain ⟨rfl, E9, e9, j9⟩ := q9; obtain rfl := e9.symm
        have F9 := F8.trans E9
        refine pr_widen (cs' := 40 + 11 * l + 8) (sl' := 17000 + 7700 * l + 5600) (by omega) (by omega) ?_
        refine pr_bipush hA (nI 32) dL_text_245 (by decide) ?_
        refine pr_callV hA rfl (As := [.int (nI (32))]) (c_jAC (pr_hl hA) j9 (by simp only [List.length_append, List.length_cons, List.length_nil, jdec_len, show (jlit 5).length = 6 from rfl, show (jlit 4).length = 6 from rfl]; omega) (by omega)) v_L_64 j9.k (by decide) (q0 := (RJ4, TJ4, 4)) rfl rfl rfl (by decide) (by omega) (by omega) rfl (Nat.le_of_ble_eq_true rfl) dL_text_247 (fun v9 T10 I10 L10 q9 => ?_) (fun _ _ _ _ q => q.elim)
        obtain ⟨rfl, E10, e9, j10⟩ := q9; obtain rfl := e9.symm
        have F10 := F9.trans E10
        refine pr_widen (cs' := 40 + 11 * l + 9) (sl' := 17000 + 7700 * l + 6300) (by omega) (by omega) ?_
        refine pr_iconst hA (nI 1) dL_text_250 (by decide) ?_
        refine pr_aload_n hA dL_text_251 rfl ?_
        refine pr_bipush hA (nI 8) dL_text_252 (by decide) ?_
        refine pr_iconst hA (nI 4) dL_text_254 (by decide) ?_
        refine pr_iload_n hA dL_text_255 rfl ?_
        refine pr_imul hA dL_text_256 ?_
        refine pr_topE (z := nI (4 * l)) (hmu 4 l) ?_
        refine pr_iadd hA dL_text_257 ?_
        refine pr_topE (z := nI (8 + 4 * l)) (nI_add _ _) ?_
        refine pr_callSi hA [.ref (pr_sa g 5), .int (nI (8 + 4 * l))] (c_cell (pr_hl hA) hN (by omega)) s_L_40 rfl (by decide) (by omega) (by omega) rfl (Nat.le_of_ble_eq_true rfl) dL_text_258 ?_
        refine pr_iconst hA (nI 4) dL_text_261 (by decide) ?_
        refine pr_irem (z := nI (lcell g (8 + 4 * l) % 4)) hA dL_text_262 (by decide) (jmod (by have := lcell_lt g (8 + 4 * l); omega) (by decide)) ?_
        refine pr_iadd hA dL_text_263 ?_
        refine pr_topE (z := nI (1 + lcell g (8 + 4 * l) % 4)) (nI_add _ _) ?_
        refine pr_callV hA rfl (As := [.int (nI (1 + lcell g (8 + 4 * l) % 4))]) (c_jAI (pr_hl hA) j10 (by simp only [List.length_append, List.length_cons, List.length_nil, jdec_len, show (jlit 5).length = 6 from rfl, show (jlit 4).length = 6 from rfl]; omega) (by omega)) v_L_46 j10.k (by decide) (q0 := (RJ4, TJ4, 4)) rfl rfl rfl (by decide) (by omega) (by omega) rfl (Nat.le_of_ble_eq_true rfl) dL_text_264 (fun v9 T11 I11 L11 q9 => ?_) (fun _ _ _ _ q => q.elim)
        obtain ⟨rfl, E11, e9, j11⟩ := q9; obtain rfl := e9.symm
        have F11 := F10.trans E11
        refine pr_widen (cs' := 40 + 11 * l + 10) (sl' := 17000 + 7700 * l + 7000) (by omega) (by omega) ?_
        refine pr_pop hA dL_text_267 rfl ?_
        refine pr_iinc (ls' := [_, _, _, _, _]) hA (nI (l + 1)) dL_text_268 (by decide) rfl (nI_inc _) rfl ?_
        refine pr_goto hA 117 dL_text_271 (by decide) ?_
        refine pr_lessL (ls' := [.ref (pr_sa g 5), .ref z, .int (nI (l + 1)), .null, .null]) ⟨.inr rfl, .inr rfl, .inr rfl, .inl rfl, .inl rfl, trivial⟩ ?_
        refine pr_widen (cs' := 40 + 11 * (l + 1)) (sl' := 17000 + 7700 * (l + 1)) (by omega) (by omega) ?_
        exact ih (l + 1) T11 I11 v3 v4 (by omega) (by omega) F11 j11
      have hc9 := lcell_lt g (5 + 4 * l)
      have hc8 := lcell_lt g (6 + 4 * l)
      by_cases c4 : l < 4
      · have ef : lf g l = l := if_pos c4
        have et : lt g l = l + 1 := if_pos c4
        rw [ef, et] at step
        refine pr_iload_n hA dL_text_117 rfl ?_
        refine pr_bipush hA (nI 9) dL_text_118 (by decide) ?_
        refine pr_icmp_ge hA 274 dL_text_120 (by decide) (fun c_120 => absurd c_120 (fun q9 => by have := (nI_leI (by omega) (by omega)).mp q9; omega)) (fun _ => ?_)
        refine pr_iload_n hA dL_text_123 rfl ?_
        refine pr_iconst hA (nI 4) dL_text_124 (by decide) ?_
        refine pr_icmp_ge hA 132 dL_text_125 (by decide) (fun c_125 => absurd c_125 (fun q9 => by have := (nI_leI (by omega) (by omega)).mp q9; omega)) (fun _ => ?_)
        refine pr_iload_n hA dL_text_128 rfl ?_
        refine pr_goto hA 143 dL_text_129 (by decide) ?_
        refine pr_istore_n (ls' := [_, _, _, _, _]) hA dL_text_143 (by decide) rfl ?_
        refine pr_iload_n hA dL_text_144 rfl ?_
        refine pr_iconst hA (nI 4) dL_text_145 (by decide) ?_
        refine pr_icmp_ge hA 155 dL_text_146 (by decide) (fun c_146 => absurd c_146 (fun q9 => by have := (nI_leI (by omega) (by omega)).mp q9; omega)) (fun _ => ?_)
        refine pr_iload_n hA dL_text_149 rfl ?_
        refine pr_iconst hA (nI 1) dL_text_150 (by decide) ?_
        refine pr_iadd hA dL_text_151 ?_
        refine pr_topE (z := nI (l + 1)) (nI_add _ _) ?_
        refine pr_goto hA 173 dL_text_152 (by decide) ?_
        refine pr_istore (ls' := [_, _, _, _, _]) hA dL_text_173 (by decide) rfl ?_
        exact step
      · have ef : lf g l = lcell g (5 + 4 * l) % 5 := if_neg c4
        have et : lt g l = (lf g l + 1 + lcell g (6 + 4 * l) % 4) % 5 := if_neg c4
        refine pr_iload_n hA dL_text_117 rfl ?_
        refine pr_bipush hA (nI 9) dL_text_118 (by decide) ?_
        refine pr_icmp_ge hA 274 dL_text_120 (by decide) (fun c_120 => absurd c_120 (fun q9 => by have := (nI_leI (by omega) (by omega)).mp q9; omega)) (fun _ => ?_)
        refine pr_iload_n hA dL_text_123 rfl ?_
        refine pr_iconst hA (nI 4) dL_text_124 (by decide) ?_
        refine pr_icmp_ge hA 132 dL_text_125 (by decide) (fun _ => ?_) (fun c_125 => absurd ((nI_leI (by omega) (by omega)).mpr (by omega)) c_125)
        refine pr_aload_n hA dL_text_132 rfl ?_
        refine pr_iconst hA (nI 5) dL_text_133 (by decide) ?_
        refine pr_iconst hA (nI 4) dL_text_134 (by decide) ?_
        refine pr_iload_n hA dL_text_135 rfl ?_
        refine pr_imul hA dL_text_136 ?_
        refine pr_topE (z := nI (4 * l)) (hmu 4 l) ?_
        refine pr_iadd hA dL_text_137 ?_
        refine pr_topE (z := nI (5 + 4 * l)) (nI_add _ _) ?_
        refine pr_callSi hA [.ref (pr_sa g 5), .int (nI (5 + 4 * l))] (c_cell (pr_hl hA) hN (by omega)) s_L_40 rfl (by decide) (by omega) (by omega) rfl (Nat.le_of_ble_eq_true rfl) dL_text_138 ?_
        refine pr_iconst hA (nI 5) dL_text_141 (by decide) ?_
        refine pr_irem (z := nI (lf g l)) hA dL_text_142 (by decide) ((jmod (by omega) (by decide)).trans (congrArg nI ef.symm)) ?_
        refine pr_istore_n (ls' := [_, _, _, _, _]) hA dL_text_143 (by decide) rfl ?_
        refine pr_iload_n hA dL_text_144 rfl ?_
        refine pr_iconst hA (nI 4) dL_text_145 (by decide) ?_
        refine pr_icmp_ge hA 155 dL_text_146 (by decide) (fun _ => ?_) (fun c_146 => absurd ((nI_leI (by omega) (by omega)).mpr (by omega)) c_146)
        refine pr_iload_n hA dL_text_155 rfl ?_
        refine pr_iconst hA (nI 1) dL_text_156 (by decide) ?_
        refine pr_iadd hA dL_text_157 ?_
        refine pr_topE (z := nI (lf g l + 1)) (nI_add _ _) ?_
        refine pr_aload_n hA dL_text_158 rfl ?_
        refine pr_bipush hA (nI 6) dL_text_159 (by decide) ?_
        refine pr_iconst hA (nI 4) dL_text_161 (by decide) ?_
        refine pr_iload_n hA dL_text_162 rfl ?_
        refine pr_imul hA dL_text_163 ?_
        refine pr_topE (z := nI (4 * l)) (hmu 4 l) ?_
        refine pr_iadd hA dL_text_164 ?_
        refine pr_topE (z := nI (6 + 4 * l)) (nI_add _ _) ?_
        refine pr_callSi hA [.ref (pr_sa g 5), .int (nI (6 + 4 * l))] (c_cell (pr_hl hA) hN (by omega)) s_L_40 rfl (by decide) (by omega) (by omega) rfl (Nat.le_of_ble_eq_true rfl) dL_text_165 ?_
        refine pr_iconst hA (nI 4) dL_text_168 (by decide) ?_
        refine pr_irem (z := nI (lcell g (6 + 4 * l) % 4)) hA dL_text_169 (by decide) (jmod (by omega) (by decide)) ?_
        refine pr_iadd hA dL_text_170 ?_
        refine pr_topE (z := nI (lf g l + 1 + lcell g (6 + 4 * l) % 4)) (nI_add _ _) ?_
        refine pr_iconst hA (nI 5) dL_text_171 (by decide) ?_
        refine pr_irem (z := nI (lt g l)) hA dL_text_172 (by decide) ((jmod (by omega) (by decide)).trans (congrArg nI et.symm)) ?_
        refine pr_istore (ls' := [_, _, _, _, _]) hA dL_text_173 (by decide) rfl ?_
        exact step
  have lp1 : ∀ (j k : Nat) (T1 : pr_T) (I1 : pr_I), 5 - k = j → k ≤ 5 → jF y z Ta Ia T1 I1 → jB y z (lnd g k) 0 T1 I1 → pr_G g X mL_text.2.2.1 (pr_MQ g X (lTx (llk g 9) T I La) pr_no 200 120000) (20 + 2 * k) (9000 + 1400 * k) 89 [.ref (pr_sa g 5), .ref z, .int (nI k), .null, .null] [] T1 I1 La := by
    intro j
    induction j with
    | zero =>
      intro k T1 I1 hj hk F1 j1
      have hk5 : k = 5 := by omega
      subst hk5
      refine pr_iload_n hA dL_text_89 rfl ?_
      refine pr_iconst hA (nI 5) dL_text_90 (by decide) ?_
      refine pr_icmp_ge hA 115 dL_text_91 (by decide) (fun _ => ?_) (fun c_91 => absurd ((nI_leI (by omega) (by omega)).mpr (by omega)) c_91)
      refine pr_iconst hA (nI 0) dL_text_115 (by decide) ?_
      refine pr_istore_n (ls' := [_, _, _, _, _]) hA dL_text_116 (by decide) rfl ?_
      refine pr_widen (cs' := 40 + 11 * 0) (sl' := 17000 + 7700 * 0) (by omega) (by omega) ?_
      exact lp2 9 0 T1 I1 .null .null rfl (by omega) F1 j1
    | succ j ih =>
      intro k T1 I1 hj hk F1 j1
      have hk5 : k < 5 := by omega
      have hlen := lnd_len g k
      refine pr_iload_n hA dL_text_89 rfl ?_
      refine pr_iconst hA (nI 5) dL_text_90 (by decide) ?_
      refine pr_icmp_ge hA 115 dL_text_91 (by decide) (fun c_91 => absurd c_91 (fun q9 => by have := (nI_leI (by omega) (by omega)).mp q9; omega)) (fun _ => ?_)
      refine pr_aload_n hA dL_text_94 rfl ?_
      refine pr_lds (k := 14) (tx := ";node ") hA (by decide +kernel) dL_text_95 ?_
      refine pr_callV hA rfl (As := [.ref (pr_ak g 14)]) (c_jAS (pr_hl hA) j1 (Or.inl ⟨4, by decide, rfl, rfl⟩) (by simp only [List.length_append, List.length_cons, List.length_nil, jdec_len, show (jlit 5).length = 6 from rfl, show (jlit 4).length = 6 from rfl]; omega)) v_L_37 j1.k (by decide) (q0 := (RJ4, TJ4, 4)) rfl rfl rfl (by decide) (by omega) (by omega) rfl (Nat.le_of_ble_eq_true rfl) dL_text_97 (fun v9 T2 I2 L2 q9 => ?_) (fun _ _ _ _ q => q.elim)
      obtain ⟨rfl, E2, e9, j2⟩ := q9; obtain rfl := e9.symm
      have F2 := F1.trans E2
      refine pr_widen (cs' := 20 + 2 * k + 1) (sl' := 9000 + 1400 * k + 700) (by omega) (by omega) ?_
      refine pr_bipush hA (nI 97) dL_text_100 (by decide) ?_
      refine pr_iload_n hA dL_text_102 rfl ?_
      refine pr_iadd hA dL_text_103 ?_
      refine pr_topE (z := nI (97 + k)) (nI_add _ _) ?_
      refine pr_i2c hA dL_text_104 ?_
      refine pr_topE (z := nI (97 + k)) (hic _ (by omega)) ?_
      refine pr_callV hA rfl (As := [.int (nI (97 + k))]) (c_jAC (pr_hl hA) j2 (by simp only [List.length_append, List.length_cons, List.length_nil, jdec_len, show (jlit 5).length = 6 from rfl, show (jlit 4).length = 6 from rfl]; omega) (by omega)) v_L_64 j2.k (by decide) (q0 := (RJ4, TJ4, 4)) rfl rfl rfl (by decide) (by omega) (by omega) rfl (Nat.le_of_ble_eq_true rfl) dL_text_105 (fun v9 T3 I3 L3 q9 => ?_) (fun _ _ _ _ q => q.elim)
      obtain ⟨rfl, E3, e9, j3⟩ := q9; obtain rfl := e9.symm
      have F3 := F2.trans E3
      refine pr_widen (cs' := 20 + 2 * k + 2) (sl' := 9000 + 1400 * k + 1400) (by omega) (by omega) ?_
      refine pr_pop hA dL_text_108 rfl ?_
      refine pr_iinc (ls' := [_, _, _, _, _]) hA (nI (k + 1)) dL_text_109 (by decide) rfl (nI_inc _) rfl ?_
      refine pr_goto hA 89 dL_text_112 (by decide) ?_
      refine pr_widen (cs' := 20 + 2 * (k + 1)) (sl' := 9000 + 1400 * (k + 1)) (by omega) (by omega) ?_
      exact ih (k + 1) T3 I3 (by omega) (by omega) F3 j3
  exact lp1 5 0 Ta Ia rfl (by omega) jF.rf ja
