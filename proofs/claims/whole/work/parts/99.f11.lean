/-! THE REFERENCE IS MADE -/
def tX8_init (T : pr_T) (a : Nat) : pr_T := (alT (alT (alT (alT (alT (alT (alT T 20 a 0 5384 5) 23 a 5 2 1) 20 a 7 700 1) 20 a 14 12 3) 20 a 18 24 2) 20 a 20 12 2) 23 a 22 12 1)
theorem x8_ps {T : pr_T} {a : Nat} (ha : a < T.1) : ∃ R1 R2 R3 R4 R5 R6 : pr_T, R1 = alT T 20 a 0 5384 5 ∧ R2 = alT R1 23 a 5 2 1 ∧ R3 = alT R2 20 a 7 700 1 ∧ R4 = alT R3 20 a 14 12 3 ∧ R5 = alT R4 20 a 18 24 2 ∧ R6 = alT R5 20 a 20 12 2 ∧ tX8_init T a = alT R6 23 a 22 12 1 ∧ PS a 0 T R1 ∧ PS a 5 R1 R2 ∧ PS a 7 R2 R3 ∧ PS a 14 R3 R4 ∧ PS a 18 R4 R5 ∧ PS a 20 R5 R6 ∧ PS a 22 R6 (tX8_init T a) := by
  obtain ⟨R1, h1⟩ : ∃ R1, R1 = alT T 20 a 0 5384 5 := ⟨_, rfl⟩
  obtain ⟨R2, h2⟩ : ∃ R2, R2 = alT R1 23 a 5 2 1 := ⟨_, rfl⟩
  obtain ⟨R3, h3⟩ : ∃ R3, R3 = alT R2 20 a 7 700 1 := ⟨_, rfl⟩
  obtain ⟨R4, h4⟩ : ∃ R4, R4 = alT R3 20 a 14 12 3 := ⟨_, rfl⟩
  obtain ⟨R5, h5⟩ : ∃ R5, R5 = alT R4 20 a 18 24 2 := ⟨_, rfl⟩
  obtain ⟨R6, h6⟩ : ∃ R6, R6 = alT R5 20 a 20 12 2 := ⟨_, rfl⟩
  have e : tX8_init T a = alT R6 23 a 22 12 1 := by rw [h6, h5, h4, h3, h2, h1]; rfl
  have p1 : PS a 0 T R1 := by rw [h1]; exact ps_al ha
  have a1 := Nat.lt_of_lt_of_le ha p1.1
  have p2 : PS a 5 R1 R2 := by rw [h2]; exact ps_al a1
  have a2 := Nat.lt_of_lt_of_le a1 p2.1
  have p3 : PS a 7 R2 R3 := by rw [h3]; exact ps_al a2
  have a3 := Nat.lt_of_lt_of_le a2 p3.1
  have p4 : PS a 14 R3 R4 := by rw [h4]; exact ps_al a3
  have a4 := Nat.lt_of_lt_of_le a3 p4.1
  have p5 : PS a 18 R4 R5 := by rw [h5]; exact ps_al a4
  have a5 := Nat.lt_of_lt_of_le a4 p5.1
  have p6 : PS a 20 R5 R6 := by rw [h6]; exact ps_al a5
  have a6 := Nat.lt_of_lt_of_le a5 p6.1
  have p7 : PS a 22 R6 (tX8_init T a) := by rw [e]; exact ps_al a6
  exact ⟨R1, R2, R3, R4, R5, R6, h1, h2, h3, h4, h5, h6, e, p1, p2, p3, p4, p5, p6, p7⟩
theorem made_Mo {T : pr_T} {m : Nat} (hT : T.1 = m + 1) (ham : T.2.1 m = (8, 0)) : pr_Mo (tX8_init T m) m ∧ (tX8_init T m).1 = m + 16 ∧ PS m 0 T (tX8_init T m) := by
  obtain ⟨R1, R2, R3, R4, R5, R6, h1, h2, h3, h4, h5, h6, e, p1, p2, p3, p4, p5, p6, p7⟩ := x8_ps (T := T) (a := m) (by omega)
  have s1 : R1.1 = m + 6 := by rw [h1]; show T.1 + 5 = _; omega
  have s2 : R2.1 = m + 7 := by rw [h2]; show R1.1 + 1 = _; omega
  have s3 : R3.1 = m + 8 := by rw [h3]; show R2.1 + 1 = _; omega
  have s4 : R4.1 = m + 11 := by rw [h4]; show R3.1 + 3 = _; omega
  have s5 : R5.1 = m + 13 := by rw [h5]; show R4.1 + 2 = _; omega
  have s6 : R6.1 = m + 15 := by rw [h6]; show R5.1 + 2 = _; omega
  have s7 : (tX8_init T m).1 = m + 16 := by rw [e]; show R6.1 + 1 = _; omega
  have q6 := p6.trans p7 (by decide)
  have q5 := p5.trans q6 (by decide)
  have q4 := p4.trans q5 (by decide)
  have q3 := p3.trans q4 (by decide)
  have q2 := p2.trans q3 (by decide)
  have q1 := p1.trans q2 (by decide)
  have c1 : ∀ j, j < 5 → R1.2.1 (m + 1 + j) = (20, 5384) := fun j hj => by rw [h1, ← hT]; exact al_kr hj
  have c2 : R2.2.1 (m + 6) = (23, 2) := by rw [h2, ← s1]; exact al_kr (j := 0) (by decide)
  have c3 : R3.2.1 (m + 7) = (20, 700) := by rw [h3, ← s2]; exact al_kr (j := 0) (by decide)
  have c4 : ∀ j, j < 3 → R4.2.1 (m + 8 + j) = (20, 12) := fun j hj => by rw [h4, ← s3]; exact al_kr hj
  have c5 : ∀ j, j < 2 → R5.2.1 (m + 11 + j) = (20, 24) := fun j hj => by rw [h5, ← s4]; exact al_kr hj
  have c6 : ∀ j, j < 2 → R6.2.1 (m + 13 + j) = (20, 12) := fun j hj => by rw [h6, ← s5]; exact al_kr hj
  have c7 : (tX8_init T m).2.1 (m + 15) = (23, 12) := by rw [e, ← s6]; exact al_kr (j := 0) (by decide)
  refine ⟨⟨fun o ho => ?_, fun k b hk => ?_⟩, s7, q1⟩
  · rcases (by omega : o = 0 ∨ o = 1 ∨ o = 2 ∨ o = 3 ∨ o = 4 ∨ o = 5 ∨ o = 6 ∨ o = 7 ∨ o = 8 ∨ o = 9 ∨ o = 10 ∨ o = 11 ∨ o = 12 ∨ o = 13 ∨ o = 14 ∨ o = 15) with h | h | h | h | h | h | h | h | h | h | h | h | h | h | h | h <;> subst h
    · rw [Nat.add_zero, q1.2.1 _ (by omega)]; exact ham
    · rw [q2.2.1 _ (by omega)]; exact c1 0 (by decide)
    · rw [q2.2.1 _ (by omega)]; exact c1 1 (by decide)
    · rw [q2.2.1 _ (by omega)]; exact c1 2 (by decide)
    · rw [q2.2.1 _ (by omega)]; exact c1 3 (by decide)
    · rw [q2.2.1 _ (by omega)]; exact c1 4 (by decide)
    · rw [q3.2.1 _ (by omega)]; exact c2
    · rw [q4.2.1 _ (by omega)]; exact c3
    · rw [q5.2.1 _ (by omega)]; exact c4 0 (by decide)
    · rw [q5.2.1 _ (by omega)]; exact c4 1 (by decide)
    · rw [q5.2.1 _ (by omega)]; exact c4 2 (by decide)
    · rw [q6.2.1 _ (by omega)]; exact c5 0 (by decide)
    · rw [q6.2.1 _ (by omega)]; exact c5 1 (by decide)
    · rw [p7.2.1 _ (by omega)]; exact c6 0 (by decide)
    · rw [p7.2.1 _ (by omega)]; exact c6 1 (by decide)
    · exact c7
  · have d1 : ∀ j, j < 5 → R1.2.2 m j = some (m + 1 + j) := fun j hj => by rw [h1, al_r (by omega) (by omega), hT]; congr 1
    have d2 : R2.2.2 m 5 = some (m + 6) := by rw [h2, al_r (by omega) (by omega), s1]
    have d3 : R3.2.2 m 7 = some (m + 7) := by rw [h3, al_r (by omega) (by omega), s2]
    have d4 : ∀ j, j < 3 → R4.2.2 m (14 + j) = some (m + 8 + j) := fun j hj => by rw [h4, al_r (by omega) (by omega), s3]; congr 1; omega
    have d5 : ∀ j, j < 2 → R5.2.2 m (18 + j) = some (m + 11 + j) := fun j hj => by rw [h5, al_r (by omega) (by omega), s4]; congr 1; omega
    have d6 : ∀ j, j < 2 → R6.2.2 m (20 + j) = some (m + 13 + j) := fun j hj => by rw [h6, al_r (by omega) (by omega), s5]; congr 1; omega
    have d7 : (tX8_init T m).2.2 m 22 = some (m + 15) := by rw [e, al_r (by omega) (by omega), s6]
    match k, hk with
    | 0, hk => cases hk; rw [q2.2.2.2 _ (by decide)]; exact d1 0 (by decide)
    | 1, hk => cases hk; rw [q2.2.2.2 _ (by decide)]; exact d1 1 (by decide)
    | 2, hk => cases hk; rw [q2.2.2.2 _ (by decide)]; exact d1 2 (by decide)
    | 3, hk => cases hk; rw [q2.2.2.2 _ (by decide)]; exact d1 3 (by decide)
    | 4, hk => cases hk; rw [q2.2.2.2 _ (by decide)]; exact d1 4 (by decide)
    | 5, hk => cases hk; rw [q3.2.2.2 _ (by decide)]; exact d2
    | 6, hk => cases hk
    | 7, hk => cases hk; rw [q4.2.2.2 _ (by decide)]; exact d3
    | 14, hk => cases hk; rw [q5.2.2.2 _ (by decide)]; exact d4 0 (by decide)
    | 15, hk => cases hk; rw [q5.2.2.2 _ (by decide)]; exact d4 1 (by decide)
    | 16, hk => cases hk; rw [q5.2.2.2 _ (by decide)]; exact d4 2 (by decide)
    | 18, hk => cases hk; rw [q6.2.2.2 _ (by decide)]; exact d5 0 (by decide)
    | 19, hk => cases hk; rw [q6.2.2.2 _ (by decide)]; exact d5 1 (by decide)
    | 20, hk => cases hk; rw [p7.2.2.2 _ (by decide)]; exact d6 0 (by decide)
    | 21, hk => cases hk; rw [p7.2.2.2 _ (by decide)]; exact d6 1 (by decide)
    | 22, hk => cases hk; exact d7
    | 8, hk | 9, hk | 10, hk | 11, hk | 12, hk | 13, hk | 17, hk => cases hk
    | k + 23, hk => cases hk
set_option maxRecDepth 100000 in
theorem c_X8_init {g : pr_C} {l : Launch} (hl : l.stackTraces = false) {T : pr_T} {I : pr_I} {L : pr_L} {a : Nat} (ha : T.2.1 a = (8, 0)) (hlt : a < T.1) (hI : I a = fun _ => 0) : pr_M g l 2 15 27742 mX8_init [.ref a] T I L (pr_R none (tX8_init T a) (pr_row (zI I T.1 15) T.1 (bg_row (fun _ => 0))) L) pr_no := by
  refine pr_ofG (by decide) rfl hl (Nat.le_of_ble_eq_true rfl) (fun X hA hX hXn hXt => ?_)
  have hin : X.2.2.2.2.2.2.2.2.1.name = "<init>" := hXn
  obtain ⟨R1, R2, R3, R4, R5, R6, h1, h2, h3, h4, h5, h6, e, p1, p2, p3, p4, p5, p6, p7⟩ := x8_ps (T := T) (a := a) hlt
  have q1 := p1.trans (p2.trans (p3.trans (p4.trans (p5.trans (p6.trans p7 (by decide)) (by decide)) (by decide)) (by decide)) (by decide)) (by decide)
  have q2 := p2.trans (p3.trans (p4.trans (p5.trans (p6.trans p7 (by decide)) (by decide)) (by decide)) (by decide)) (by decide)
  show pr_G g X mX8_init.2.2.1 _ 0 0 0 [.ref a] [] T I L
  refine pr_z0 ?_
  refine pr_aload_n hA dX8_init_0 rfl ?_
  refine pr_objInit hA rfl kM_X8_3 kI_Object__init____V kO_Object__init____V (by decide) (by decide) dX8_init_1 ?_
  refine pr_aload_n hA dX8_init_4 rfl ?_
  refine pr_sipush hA (5384) dX8_init_5 (by decide) ?_
  refine pr_al0 20 a 0 5384 ?_
  refine pr_fA (at0 := .int) hA 20 0 0 5384 0 0 (b0 := T.1) hlt ha rfl rfl (Or.inl rfl) rfl kY_int (by decide) (by decide) (by decide) f_X8_9 rfl hin (fun q hq => by cases hq; rfl) (by decide) (by decide) dX8_init_8 dX8_init_10 ?_
  refine pr_aload_n hA dX8_init_13 rfl ?_
  refine pr_sipush hA (5384) dX8_init_14 (by decide) ?_
  refine pr_fA (at0 := .int) hA 20 0 0 5384 1 1 (b0 := T.1) hlt ha rfl rfl (Or.inl rfl) rfl kY_int (by decide) (by decide) (by decide) f_X8_13 rfl hin (fun q hq => by cases hq; rfl) (by decide) (by decide) dX8_init_17 dX8_init_19 ?_
  refine pr_aload_n hA dX8_init_22 rfl ?_
  refine pr_sipush hA (5384) dX8_init_23 (by decide) ?_
  refine pr_fA (at0 := .int) hA 20 0 0 5384 2 2 (b0 := T.1) hlt ha rfl rfl (Or.inl rfl) rfl kY_int (by decide) (by decide) (by decide) f_X8_16 rfl hin (fun q hq => by cases hq; rfl) (by decide) (by decide) dX8_init_26 dX8_init_28 ?_
  refine pr_aload_n hA dX8_init_31 rfl ?_
  refine pr_sipush hA (5384) dX8_init_32 (by decide) ?_
  refine pr_fA (at0 := .int) hA 20 0 0 5384 3 3 (b0 := T.1) hlt ha rfl rfl (Or.inl rfl) rfl kY_int (by decide) (by decide) (by decide) f_X8_19 rfl hin (fun q hq => by cases hq; rfl) (by decide) (by decide) dX8_init_35 dX8_init_37 ?_
  refine pr_aload_n hA dX8_init_40 rfl ?_
  refine pr_sipush hA (5384) dX8_init_41 (by decide) ?_
  refine pr_fA (at0 := .int) hA 20 0 0 5384 4 4 (b0 := T.1) hlt ha rfl rfl (Or.inl rfl) rfl kY_int (by decide) (by decide) (by decide) f_X8_22 rfl hin (fun q hq => by cases hq; rfl) (by decide) (by decide) dX8_init_44 dX8_init_46 ?_
  refine pr_aload_n hA dX8_init_49 rfl ?_
  refine pr_iconst hA (2) dX8_init_50 (by decide) ?_
  have hT1 : (alT T 20 a 0 5384 5).2.1 a = (8, 0) := (alT_k hlt).trans ha
  have hL1 : a < (alT T 20 a 0 5384 5).1 := by show a < T.1 + 5; omega
  refine pr_al0 23 a 5 2 ?_
  refine pr_fA (at0 := .boolean) hA 23 3 5 2 0 5 (b0 := T.1) hL1 hT1 rfl rfl (Or.inr (Or.inr rfl)) rfl kY_boolean (by decide) (by decide) (by decide) f_X8_25 rfl hin (fun q hq => by cases hq; rfl) (by decide) (by decide) dX8_init_51 dX8_init_53 ?_
  refine pr_aload_n hA dX8_init_56 rfl ?_
  refine pr_sipush hA (700) dX8_init_57 (by decide) ?_
  have hT2 : (alT (alT T 20 a 0 5384 5) 23 a 5 2 1).2.1 a = (8, 0) := (alT_k hL1).trans hT1
  have hL2 : a < (alT (alT T 20 a 0 5384 5) 23 a 5 2 1).1 := by show a < T.1 + 6; omega
  refine pr_al0 20 a 7 700 ?_
  refine pr_fA (at0 := .int) hA 20 0 7 700 0 6 (b0 := T.1) hL2 hT2 rfl rfl (Or.inl rfl) rfl kY_int (by decide) (by decide) (by decide) f_X8_29 rfl hin (fun q hq => by cases hq; rfl) (by decide) (by decide) dX8_init_60 dX8_init_62 ?_
  refine pr_aload_n hA dX8_init_65 rfl ?_
  refine pr_bipush hA (12) dX8_init_66 (by decide) ?_
  have hT3 : (alT (alT (alT T 20 a 0 5384 5) 23 a 5 2 1) 20 a 7 700 1).2.1 a = (8, 0) := (alT_k hL2).trans hT2
  have hL3 : a < (alT (alT (alT T 20 a 0 5384 5) 23 a 5 2 1) 20 a 7 700 1).1 := by show a < T.1 + 7; omega
  refine pr_al0 20 a 14 12 ?_
  refine pr_fA (at0 := .int) hA 20 0 14 12 0 7 (b0 := T.1) hL3 hT3 rfl rfl (Or.inl rfl) rfl kY_int (by decide) (by decide) (by decide) f_X8_32 rfl hin (fun q hq => by cases hq; rfl) (by decide) (by decide) dX8_init_68 dX8_init_70 ?_
  refine pr_aload_n hA dX8_init_73 rfl ?_
  refine pr_bipush hA (12) dX8_init_74 (by decide) ?_
  refine pr_fA (at0 := .int) hA 20 0 14 12 1 8 (b0 := T.1) hL3 hT3 rfl rfl (Or.inl rfl) rfl kY_int (by decide) (by decide) (by decide) f_X8_35 rfl hin (fun q hq => by cases hq; rfl) (by decide) (by decide) dX8_init_76 dX8_init_78 ?_
  refine pr_aload_n hA dX8_init_81 rfl ?_
  refine pr_bipush hA (12) dX8_init_82 (by decide) ?_
  refine pr_fA (at0 := .int) hA 20 0 14 12 2 9 (b0 := T.1) hL3 hT3 rfl rfl (Or.inl rfl) rfl kY_int (by decide) (by decide) (by decide) f_X8_38 rfl hin (fun q hq => by cases hq; rfl) (by decide) (by decide) dX8_init_84 dX8_init_86 ?_
  refine pr_aload_n hA dX8_init_89 rfl ?_
  refine pr_bipush hA (24) dX8_init_90 (by decide) ?_
  have hT4 : (alT (alT (alT (alT T 20 a 0 5384 5) 23 a 5 2 1) 20 a 7 700 1) 20 a 14 12 3).2.1 a = (8, 0) := (alT_k hL3).trans hT3
  have hL4 : a < (alT (alT (alT (alT T 20 a 0 5384 5) 23 a 5 2 1) 20 a 7 700 1) 20 a 14 12 3).1 := by show a < T.1 + 10; omega
  refine pr_al0 20 a 18 24 ?_
  refine pr_fA (at0 := .int) hA 20 0 18 24 0 10 (b0 := T.1) hL4 hT4 rfl rfl (Or.inl rfl) rfl kY_int (by decide) (by decide) (by decide) f_X8_41 rfl hin (fun q hq => by cases hq; rfl) (by decide) (by decide) dX8_init_92 dX8_init_94 ?_
  refine pr_aload_n hA dX8_init_97 rfl ?_
  refine pr_bipush hA (24) dX8_init_98 (by decide) ?_
  refine pr_fA (at0 := .int) hA 20 0 18 24 1 11 (b0 := T.1) hL4 hT4 rfl rfl (Or.inl rfl) rfl kY_int (by decide) (by decide) (by decide) f_X8_44 rfl hin (fun q hq => by cases hq; rfl) (by decide) (by decide) dX8_init_100 dX8_init_102 ?_
  refine pr_aload_n hA dX8_init_105 rfl ?_
  refine pr_bipush hA (12) dX8_init_106 (by decide) ?_
  have hT5 : (alT (alT (alT (alT (alT T 20 a 0 5384 5) 23 a 5 2 1) 20 a 7 700 1) 20 a 14 12 3) 20 a 18 24 2).2.1 a = (8, 0) := (alT_k hL4).trans hT4
  have hL5 : a < (alT (alT (alT (alT (alT T 20 a 0 5384 5) 23 a 5 2 1) 20 a 7 700 1) 20 a 14 12 3) 20 a 18 24 2).1 := by show a < T.1 + 12; omega
  refine pr_al0 20 a 20 12 ?_
  refine pr_fA (at0 := .int) hA 20 0 20 12 0 12 (b0 := T.1) hL5 hT5 rfl rfl (Or.inl rfl) rfl kY_int (by decide) (by decide) (by decide) f_X8_47 rfl hin (fun q hq => by cases hq; rfl) (by decide) (by decide) dX8_init_108 dX8_init_110 ?_
  refine pr_aload_n hA dX8_init_113 rfl ?_
  refine pr_bipush hA (12) dX8_init_114 (by decide) ?_
  refine pr_fA (at0 := .int) hA 20 0 20 12 1 13 (b0 := T.1) hL5 hT5 rfl rfl (Or.inl rfl) rfl kY_int (by decide) (by decide) (by decide) f_X8_50 rfl hin (fun q hq => by cases hq; rfl) (by decide) (by decide) dX8_init_116 dX8_init_118 ?_
  refine pr_aload_n hA dX8_init_121 rfl ?_
  refine pr_bipush hA (12) dX8_init_122 (by decide) ?_
  have hT6 : (alT (alT (alT (alT (alT (alT T 20 a 0 5384 5) 23 a 5 2 1) 20 a 7 700 1) 20 a 14 12 3) 20 a 18 24 2) 20 a 20 12 2).2.1 a = (8, 0) := (alT_k hL5).trans hT5
  have hL6 : a < (alT (alT (alT (alT (alT (alT T 20 a 0 5384 5) 23 a 5 2 1) 20 a 7 700 1) 20 a 14 12 3) 20 a 18 24 2) 20 a 20 12 2).1 := by show a < T.1 + 14; omega
  refine pr_al0 23 a 22 12 ?_
  refine pr_fA (at0 := .boolean) hA 23 3 22 12 0 14 (b0 := T.1) hL6 hT6 rfl rfl (Or.inr (Or.inr rfl)) rfl kY_boolean (by decide) (by decide) (by decide) f_X8_53 rfl hin (fun q hq => by cases hq; rfl) (by decide) (by decide) dX8_init_124 dX8_init_126 ?_
  refine pr_aload_n hA dX8_init_129 rfl ?_
  have r0 : (tX8_init T a).2.2 a 0 = some T.1 := by
    rw [q2.2.2.2 0 (by decide), h1, al_r (by decide) (by decide)]; rfl
  have k0 : (tX8_init T a).2.1 T.1 = (20, 5384) := by
    rw [q2.2.1 T.1 (by rw [h1]; show T.1 < T.1 + 5; omega), h1]; exact al_kr (j := 0) (by decide)
  refine pr_getR hA f_X8_9 rfl ((q1.2.1 a hlt).trans ha) r0 dX8_init_130 ?_
  refine pr_callSv hA [.ref T.1] (c_beginsE (pr_hl hA) k0 (zI_in (Nat.le_refl _) (by omega)) rfl) s_X8_56 rfl (by decide) (by decide) (by decide) rfl (Nat.le_of_ble_eq_true rfl) dX8_init_133 ?_
  exact pr_return hA rfl (by decide) (by decide) dX8_init_136 ⟨rfl, rfl, rfl, rfl⟩
