/-! THE LAW'S step() -/
def StR (σ σ' : pr_I) : Prop :=
  (∃ r, r < rqn σ ∧ σ' = fx_cancel σ r) ∨ (∃ r, r < rqn σ ∧ σ' = fx_extend σ r) ∨ (∃ k, k < 9 ∧ σ' = fx_takeDown σ k) ∨ (∃ k, k < 9 ∧ σ' = fx_bringUp σ k) ∨
  (∃ k z, k < 9 ∧ z < 80 ∧ σ' = fx_setCapacity σ k (nI z)) ∨ (∃ z, 1 ≤ z ∧ z ≤ 9 ∧ σ' = fx_advance σ (nI z)) ∨
  ∃ s t u q, s < 5 ∧ t < 5 ∧ s ≠ t ∧ 1 ≤ u ∧ u ≤ 25 ∧ 1 ≤ q ∧ q ≤ 60 ∧ σ' = fx_request σ s t (nI u) (nI q)
theorem jdiv7 : ∀ v, v < 1000 → nI v / nI 7 = nI (v / 7) := by decide +kernel
theorem ir {a b : Nat} (h : a ≤ b) (hb : b < 2 ^ 31) : nI a ≤ nI b := (nI_leI (by omega) hb).mpr h
def lSp (x : Nat) (σ τ φ ι : pr_I) (T : pr_T) (L : pr_L) : Option Value → pr_T → pr_I → pr_L → Prop := fun v' T' I' L' => v' = none ∧ T' = T ∧ L' = L ∧ ∃ σ', lMm x I' σ' τ φ ι ∧ StR σ σ'

set_option maxRecDepth 100000 in
set_option maxHeartbeats 400000 in
theorem c_step {g : pr_C} {l : Launch} (hl : l.stackTraces = false) {T : pr_T} {I : pr_I} {L : pr_L} {x i : Nat} {σ τ φ ι : pr_I} (hN : pr_scn g ≤ 260) (hS : lSt x T) (hM : lMm x I σ τ φ ι) (hI : wI σ) (h5 : ndn σ = 5) (h9 : lkn σ = 9) (hi : i < 900) : pr_M g l 12 0 0 mL_step [.ref x, .ref (pr_sa g 5), .int (nI i)] T I L (lSp x σ τ φ ι T L) pr_no := by
  refine pr_ofG (by decide) rfl hl (Nat.le_of_ble_eq_true rfl) (fun X hA hX hXn hXt => ?_)
  subst hX
  show pr_G g X mL_step.2.2.1 _ 0 0 0 [.ref x, .ref (pr_sa g 5), .int (nI i), .null, .null, .null] [] T I L
  have h4 := wI_nr4 hI
  obtain ⟨v, hv⟩ : ∃ v, lcell g (i + 1) = v := ⟨_, rfl⟩
  have hv9 : v < 1000 := by rw [← hv]; exact lcell_lt g _
  obtain ⟨c2, hc2⟩ : ∃ v, lcell g (i + 2) = v := ⟨_, rfl⟩
  have hc9 : c2 < 1000 := by rw [← hc2]; exact lcell_lt g _
  obtain ⟨c0, hc0⟩ : ∃ v, lcell g i = v := ⟨_, rfl⟩
  have hz9 : c0 < 1000 := by rw [← hc0]; exact lcell_lt g _
  have E174 : ∀ r k : Nat, pr_G g X mL_step.2.2.1 (pr_MQ g X (lSp x σ τ φ ι T L) pr_no 0 0) 0 0 174 [.ref x, .ref (pr_sa g 5), .int (nI i), .int (nI v), .int (nI r), .int (nI k)] [] T I L := by
    intro r k
    have w4 : v / 7 % 4 < 4 := Nat.mod_lt _ (by decide)
    refine pr_aload_n hA dL_step_174 rfl ?_
    refine pr_iload_n hA dL_step_175 rfl ?_
    refine pr_iconst hA (nI 5) dL_step_176 (by decide) ?_
    refine pr_irem (z := nI (v % 5)) hA dL_step_177 (by decide) (jmod (by omega) (by decide)) ?_
    refine pr_iload_n hA dL_step_178 rfl ?_
    refine pr_iconst hA (nI 1) dL_step_179 (by decide) ?_
    refine pr_iadd hA dL_step_180 ?_
    refine pr_topE (z := nI (v + 1)) (nI_add _ _) ?_
    refine pr_iload_n hA dL_step_181 rfl ?_
    refine pr_bipush hA (nI 7) dL_step_182 (by decide) ?_
    refine pr_idiv hA dL_step_184 (by decide) ?_
    refine pr_topE (z := nI (v / 7)) (jdiv7 v hv9) ?_
    refine pr_iconst hA (nI 4) dL_step_185 (by decide) ?_
    refine pr_irem (z := nI (v / 7 % 4)) hA dL_step_186 (by decide) (jmod (by omega) (by decide)) ?_
    refine pr_iadd hA dL_step_187 ?_
    refine pr_topE (z := nI (v + 1 + v / 7 % 4)) (nI_add _ _) ?_
    refine pr_iconst hA (nI 5) dL_step_188 (by decide) ?_
    refine pr_irem (z := nI ((v + 1 + v / 7 % 4) % 5)) hA dL_step_189 (by decide) (jmod (by omega) (by decide)) ?_
    refine pr_iconst hA (nI 1) dL_step_190 (by decide) ?_
    refine pr_iload_n hA dL_step_191 rfl ?_
    refine pr_bipush hA (nI 25) dL_step_192 (by decide) ?_
    refine pr_irem (z := nI (v % 25)) hA dL_step_194 (by decide) (jmod (by omega) (by decide)) ?_
    refine pr_iadd hA dL_step_195 ?_
    refine pr_topE (z := nI (1 + v % 25)) (nI_add _ _) ?_
    refine pr_iconst hA (nI 1) dL_step_196 (by decide) ?_
    refine pr_aload_n hA dL_step_197 rfl ?_
    refine pr_iload_n hA dL_step_198 rfl ?_
    refine pr_iconst hA (nI 2) dL_step_199 (by decide) ?_
    refine pr_iadd hA dL_step_200 ?_
    refine pr_topE (z := nI (i + 2)) (nI_add _ _) ?_
    refine pr_callSi hA [.ref (pr_sa g 5), .int (nI (i + 2))] (c_cell (pr_hl hA) hN (by omega)) s_L_40 rfl (by decide) (by omega) (by omega) rfl (Nat.le_of_ble_eq_true rfl) dL_step_201 ?_
    rw [hc2]
    refine pr_bipush hA (nI 60) dL_step_204 (by decide) ?_
    refine pr_irem (z := nI (c2 % 60)) hA dL_step_206 (by decide) (jmod (by omega) (by decide)) ?_
    refine pr_iadd hA dL_step_207 ?_
    refine pr_topE (z := nI (1 + c2 % 60)) (nI_add _ _) ?_
    refine pr_callVi hA [.int (nI (v % 5)), .int (nI ((v + 1 + v / 7 % 4) % 5)), .int (nI (1 + v % 25)), .int (nI (1 + c2 % 60))] (o_request (pr_hl hA) hS hM.1 hI (i := nI (1 + v % 25)) (q := nI (1 + c2 % 60)) (by omega) (by omega) (by omega) (ir (a := 1) (by omega) (by omega)) (ir (b := 1000) (by omega) (by omega)) (ir (a := 1) (by omega) (by omega)) (ir (b := 10000) (by omega) (by omega))) v_L_91 hS.k (by decide) rfl rfl rfl (by decide) (by omega) (by omega) rfl (Nat.le_of_ble_eq_true rfl) dL_step_208 ?_
    refine pr_pop hA dL_step_211 rfl ?_
    exact pr_return hA rfl (Nat.zero_le _) (Nat.zero_le _) dL_step_212 ⟨rfl, rfl, rfl, _, hM.w _, Or.inr (Or.inr (Or.inr (Or.inr (Or.inr (Or.inr ⟨_, _, _, _, by omega, by omega, by omega, by omega, by omega, by omega, by omega, rfl⟩)))))⟩
  have E55 : ∀ r k : Nat, k < 10 → (k < 7 → r < rqn σ) → pr_G g X mL_step.2.2.1 (pr_MQ g X (lSp x σ τ φ ι T L) pr_no 0 0) 0 0 55 [.ref x, .ref (pr_sa g 5), .int (nI i), .int (nI v), .int (nI r), .int (nI k)] [] T I L := by
    intro r k hk hr
    refine pr_iload hA dL_step_55 rfl ?_
    by_cases ck : 6 < k
    · exact pr_tableOut hA 174 dL_step_57 (Or.inr (by rw [nI_toInt (by omega)]; omega)) (by decide) (E174 r k)
    have hr2 := hr (by omega)
    rcases (by omega : k = 0 ∨ k = 1 ∨ k = 2 ∨ k = 3 ∨ k = 4 ∨ k = 5 ∨ k = 6) with rfl | rfl | rfl | rfl | rfl | rfl | rfl
    · refine pr_tableIn (off := 43) hA 100 dL_step_57 (by decide) (by decide) (by decide +kernel) (by decide) ?_
      refine pr_aload_n hA dL_step_100 rfl ?_
      refine pr_iload hA dL_step_101 rfl ?_
      refine pr_callVi hA [.int (nI r)] (o_cancel (pr_hl hA) hS hM.1 hI hr2) v_L_72 hS.k (by decide) rfl rfl rfl (by decide) (by omega) (by omega) rfl (Nat.le_of_ble_eq_true rfl) dL_step_103 ?_
      refine pr_pop hA dL_step_106 rfl ?_
      refine pr_goto hA 212 dL_step_107 (by decide) ?_
      exact pr_return hA rfl (Nat.zero_le _) (Nat.zero_le _) dL_step_212 ⟨rfl, rfl, rfl, _, hM.w _, Or.inl ⟨_, hr2, rfl⟩⟩
    · refine pr_tableIn (off := 53) hA 110 dL_step_57 (by decide) (by decide) (by decide +kernel) (by decide) ?_
      refine pr_aload_n hA dL_step_110 rfl ?_
      refine pr_iload hA dL_step_111 rfl ?_
      refine pr_callVi hA [.int (nI r)] (o_extend (pr_hl hA) hS hM.1 hI hr2) v_L_75 hS.k (by decide) rfl rfl rfl (by decide) (by omega) (by omega) rfl (Nat.le_of_ble_eq_true rfl) dL_step_113 ?_
      refine pr_pop hA dL_step_116 rfl ?_
      refine pr_goto hA 212 dL_step_117 (by decide) ?_
      exact pr_return hA rfl (Nat.zero_le _) (Nat.zero_le _) dL_step_212 ⟨rfl, rfl, rfl, _, hM.w _, Or.inr (Or.inl ⟨_, hr2, rfl⟩)⟩
    · refine pr_tableIn (off := 63) hA 120 dL_step_57 (by decide) (by decide) (by decide +kernel) (by decide) ?_
      refine pr_aload_n hA dL_step_120 rfl ?_
      refine pr_iload_n hA dL_step_121 rfl ?_
      refine pr_bipush hA (nI 9) dL_step_122 (by decide) ?_
      refine pr_irem (z := nI (v % 9)) hA dL_step_124 (by decide) (jmod (by omega) (by decide)) ?_
      refine pr_callVi hA [.int (nI (v % 9))] (o_takeDown (pr_hl hA) hS hM.1 hI (k := v % 9) (by omega)) v_L_78 hS.k (by decide) rfl rfl rfl (by decide) (by omega) (by omega) rfl (Nat.le_of_ble_eq_true rfl) dL_step_125 ?_
      refine pr_pop hA dL_step_128 rfl ?_
      refine pr_goto hA 212 dL_step_129 (by decide) ?_
      exact pr_return hA rfl (Nat.zero_le _) (Nat.zero_le _) dL_step_212 ⟨rfl, rfl, rfl, _, hM.w _, Or.inr (Or.inr (Or.inl ⟨_, by omega, rfl⟩))⟩
    · refine pr_tableIn (off := 75) hA 132 dL_step_57 (by decide) (by decide) (by decide +kernel) (by decide) ?_
      refine pr_aload_n hA dL_step_132 rfl ?_
      refine pr_iload_n hA dL_step_133 rfl ?_
      refine pr_bipush hA (nI 9) dL_step_134 (by decide) ?_
      refine pr_irem (z := nI (v % 9)) hA dL_step_136 (by decide) (jmod (by omega) (by decide)) ?_
      refine pr_callVi hA [.int (nI (v % 9))] (o_bringUp (pr_hl hA) hS hM.1 hI (k := v % 9) (by omega)) v_L_81 hS.k (by decide) rfl rfl rfl (by decide) (by omega) (by omega) rfl (Nat.le_of_ble_eq_true rfl) dL_step_137 ?_
      refine pr_pop hA dL_step_140 rfl ?_
      refine pr_goto hA 212 dL_step_141 (by decide) ?_
      exact pr_return hA rfl (Nat.zero_le _) (Nat.zero_le _) dL_step_212 ⟨rfl, rfl, rfl, _, hM.w _, Or.inr (Or.inr (Or.inr (Or.inl ⟨_, by omega, rfl⟩)))⟩
    · refine pr_tableIn (off := 87) hA 144 dL_step_57 (by decide) (by decide) (by decide +kernel) (by decide) ?_
      refine pr_aload_n hA dL_step_144 rfl ?_
      refine pr_iload_n hA dL_step_145 rfl ?_
      refine pr_bipush hA (nI 9) dL_step_146 (by decide) ?_
      refine pr_irem (z := nI (v % 9)) hA dL_step_148 (by decide) (jmod (by omega) (by decide)) ?_
      refine pr_iload_n hA dL_step_149 rfl ?_
      refine pr_bipush hA (nI 80) dL_step_150 (by decide) ?_
      refine pr_irem (z := nI (v % 80)) hA dL_step_152 (by decide) (jmod (by omega) (by decide)) ?_
      refine pr_callVi hA [.int (nI (v % 9)), .int (nI (v % 80))] (o_setCapacity (pr_hl hA) hS hM.1 hI (k := v % 9) (i := nI (v % 80)) (by omega) (ir (a := 0) (by omega) (by omega)) (ir (b := 1000) (by omega) (by omega))) v_L_84 hS.k (by decide) rfl rfl rfl (by decide) (by omega) (by omega) rfl (Nat.le_of_ble_eq_true rfl) dL_step_153 ?_
      refine pr_pop hA dL_step_156 rfl ?_
      refine pr_goto hA 212 dL_step_157 (by decide) ?_
      exact pr_return hA rfl (Nat.zero_le _) (Nat.zero_le _) dL_step_212 ⟨rfl, rfl, rfl, _, hM.w _, Or.inr (Or.inr (Or.inr (Or.inr (Or.inl ⟨_, _, by omega, by omega, rfl⟩))))⟩
    · refine pr_tableIn (off := 103) hA 160 dL_step_57 (by decide) (by decide) (by decide +kernel) (by decide) ?_
      refine pr_aload_n hA dL_step_160 rfl ?_
      refine pr_iconst hA (nI 1) dL_step_161 (by decide) ?_
      refine pr_iload_n hA dL_step_162 rfl ?_
      refine pr_bipush hA (nI 9) dL_step_163 (by decide) ?_
      refine pr_irem (z := nI (v % 9)) hA dL_step_165 (by decide) (jmod (by omega) (by decide)) ?_
      refine pr_iadd hA dL_step_166 ?_
      refine pr_topE (z := nI (1 + v % 9)) (nI_add _ _) ?_
      refine pr_callVi hA [.int (nI (1 + v % 9))] (o_advance (pr_hl hA) hS hM.1 hI (i := nI (1 + v % 9)) (ir (a := 1) (by omega) (by omega)) (ir (b := 1000) (by omega) (by omega))) v_L_88 hS.k (by decide) rfl rfl rfl (by decide) (by omega) (by omega) rfl (Nat.le_of_ble_eq_true rfl) dL_step_167 ?_
      refine pr_pop hA dL_step_170 rfl ?_
      refine pr_goto hA 212 dL_step_171 (by decide) ?_
      exact pr_return hA rfl (Nat.zero_le _) (Nat.zero_le _) dL_step_212 ⟨rfl, rfl, rfl, _, hM.w _, Or.inr (Or.inr (Or.inr (Or.inr (Or.inr (Or.inl ⟨_, by omega, by omega, rfl⟩)))))⟩
    · refine pr_tableIn (off := 103) hA 160 dL_step_57 (by decide) (by decide) (by decide +kernel) (by decide) ?_
      refine pr_aload_n hA dL_step_160 rfl ?_
      refine pr_iconst hA (nI 1) dL_step_161 (by decide) ?_
      refine pr_iload_n hA dL_step_162 rfl ?_
      refine pr_bipush hA (nI 9) dL_step_163 (by decide) ?_
      refine pr_irem (z := nI (v % 9)) hA dL_step_165 (by decide) (jmod (by omega) (by decide)) ?_
      refine pr_iadd hA dL_step_166 ?_
      refine pr_topE (z := nI (1 + v % 9)) (nI_add _ _) ?_
      refine pr_callVi hA [.int (nI (1 + v % 9))] (o_advance (pr_hl hA) hS hM.1 hI (i := nI (1 + v % 9)) (ir (a := 1) (by omega) (by omega)) (ir (b := 1000) (by omega) (by omega))) v_L_88 hS.k (by decide) rfl rfl rfl (by decide) (by omega) (by omega) rfl (Nat.le_of_ble_eq_true rfl) dL_step_167 ?_
      refine pr_pop hA dL_step_170 rfl ?_
      refine pr_goto hA 212 dL_step_171 (by decide) ?_
      exact pr_return hA rfl (Nat.zero_le _) (Nat.zero_le _) dL_step_212 ⟨rfl, rfl, rfl, _, hM.w _, Or.inr (Or.inr (Or.inr (Or.inr (Or.inr (Or.inl ⟨_, by omega, by omega, rfl⟩)))))⟩
  refine pr_aload_n hA dL_step_0 rfl ?_
  refine pr_iload_n hA dL_step_1 rfl ?_
  refine pr_iconst hA (nI 1) dL_step_2 (by decide) ?_
  refine pr_iadd hA dL_step_3 ?_
  refine pr_topE (z := nI (i + 1)) (nI_add _ _) ?_
  refine pr_callSi hA [.ref (pr_sa g 5), .int (nI (i + 1))] (c_cell (pr_hl hA) hN (by omega)) s_L_40 rfl (by decide) (by omega) (by omega) rfl (Nat.le_of_ble_eq_true rfl) dL_step_4 ?_
  rw [hv]
  refine pr_istore_n (ls' := [_, _, _, _, _, _]) hA dL_step_7 (by decide) rfl ?_
  refine pr_aload_n hA dL_step_8 rfl ?_
  refine pr_callVi hA [] (o_requestCount (pr_hl hA) hS hM.1 hI) v_L_69 hS.k (by decide) rfl rfl rfl (by decide) (by omega) (by omega) rfl (Nat.le_of_ble_eq_true rfl) dL_step_9 ?_
  by_cases n0 : rqn σ = 0
  · refine pr_if_ne hA 19 dL_step_12 (by decide) (fun c_12 => absurd (congrArg nI n0) c_12) (fun _ => ?_)
    refine pr_iconst hA (nI 0) dL_step_15 (by decide) ?_
    refine pr_goto hA 31 dL_step_16 (by decide) ?_
    refine pr_istore (ls' := [_, _, _, _, _, _]) hA dL_step_31 (by decide) rfl ?_
    refine pr_aload_n hA dL_step_33 rfl ?_
    refine pr_callVi hA [] (o_requestCount (pr_hl hA) hS hM.1 hI) v_L_69 hS.k (by decide) rfl rfl rfl (by decide) (by omega) (by omega) rfl (Nat.le_of_ble_eq_true rfl) dL_step_34 ?_
    refine pr_if_ne hA 45 dL_step_37 (by decide) (fun c_37 => absurd (congrArg nI n0) c_37) (fun _ => ?_)
    refine pr_bipush hA (nI 9) dL_step_40 (by decide) ?_
    refine pr_goto hA 53 dL_step_42 (by decide) ?_
    refine pr_istore (ls' := [_, _, _, _, _, _]) hA dL_step_53 (by decide) rfl ?_
    exact E55 0 9 (by omega) (by omega)
  · refine pr_if_ne hA 19 dL_step_12 (by decide) (fun _ => ?_) (fun c_12 => absurd c_12 (fun z => n0 ((nI_eq (b := 0) (by omega) (by decide)).mp z)))
    refine pr_aload_n hA dL_step_19 rfl ?_
    refine pr_iload_n hA dL_step_20 rfl ?_
    refine pr_iconst hA (nI 2) dL_step_21 (by decide) ?_
    refine pr_iadd hA dL_step_22 ?_
    refine pr_topE (z := nI (i + 2)) (nI_add _ _) ?_
    refine pr_callSi hA [.ref (pr_sa g 5), .int (nI (i + 2))] (c_cell (pr_hl hA) hN (by omega)) s_L_40 rfl (by decide) (by omega) (by omega) rfl (Nat.le_of_ble_eq_true rfl) dL_step_23 ?_
    rw [hc2]
    refine pr_aload_n hA dL_step_26 rfl ?_
    refine pr_callVi hA [] (o_requestCount (pr_hl hA) hS hM.1 hI) v_L_69 hS.k (by decide) rfl rfl rfl (by decide) (by omega) (by omega) rfl (Nat.le_of_ble_eq_true rfl) dL_step_27 ?_
    refine pr_irem (z := nI (c2 % rqn σ)) hA dL_step_30 (fun z => n0 ((nI_eq (b := 0) (by omega) (by decide)).mp z)) (jmod (by omega) (by omega)) ?_
    refine pr_istore (ls' := [_, _, _, _, _, _]) hA dL_step_31 (by decide) rfl ?_
    refine pr_aload_n hA dL_step_33 rfl ?_
    refine pr_callVi hA [] (o_requestCount (pr_hl hA) hS hM.1 hI) v_L_69 hS.k (by decide) rfl rfl rfl (by decide) (by omega) (by omega) rfl (Nat.le_of_ble_eq_true rfl) dL_step_34 ?_
    refine pr_if_ne hA 45 dL_step_37 (by decide) (fun _ => ?_) (fun c_37 => absurd c_37 (fun z => n0 ((nI_eq (b := 0) (by omega) (by decide)).mp z)))
    refine pr_aload_n hA dL_step_45 rfl ?_
    refine pr_iload_n hA dL_step_46 rfl ?_
    refine pr_callSi hA [.ref (pr_sa g 5), .int (nI (i))] (c_cell (pr_hl hA) hN (by omega)) s_L_40 rfl (by decide) (by omega) (by omega) rfl (Nat.le_of_ble_eq_true rfl) dL_step_47 ?_
    rw [hc0]
    refine pr_bipush hA (nI 10) dL_step_50 (by decide) ?_
    refine pr_irem (z := nI (c0 % 10)) hA dL_step_52 (by decide) (jmod (by omega) (by decide)) ?_
    refine pr_istore (ls' := [_, _, _, _, _, _]) hA dL_step_53 (by decide) rfl ?_
    exact E55 _ _ (Nat.mod_lt _ (by decide)) (fun _ => Nat.mod_lt _ (by omega))
