/-! THE REFERENCE'S FACE: what is asked of the arguments -/
theorem lg_lt0 {x y : Int64} : lg_cmp x y < 0 ↔ x < y := by
  unfold lg_cmp
  by_cases c : x > y
  · rw [if_pos c]
    constructor
    · intro h; exact absurd h (by decide)
    · intro h; have := Int64.lt_iff_toInt_lt.mp h; have := Int64.lt_iff_toInt_lt.mp c; omega
  · rw [if_neg c]
    by_cases e : x = y
    · rw [if_pos e]
      constructor
      · intro h; exact absurd h (by decide)
      · intro h; rw [e] at h; have := Int64.lt_iff_toInt_lt.mp h; omega
    · rw [if_neg e]
      constructor
      · intro _
        apply Int64.lt_iff_toInt_lt.mpr
        have h1 : ¬ y.toInt < x.toInt := fun q => c (Int64.lt_iff_toInt_lt.mpr q)
        have h2 : x.toInt ≠ y.toInt := fun q => e (Int64.toInt_inj.mp q)
        omega
      · intro _; decide
theorem lg_gt0 {x y : Int64} : 0 < lg_cmp x y ↔ y < x := by
  unfold lg_cmp
  by_cases c : x > y
  · rw [if_pos c]
    exact ⟨fun _ => c, fun _ => by decide⟩
  · rw [if_neg c]
    by_cases e : x = y
    · rw [if_pos e]
      exact ⟨fun h => absurd h (by decide), fun h => absurd h c⟩
    · rw [if_neg e]
      exact ⟨fun h => absurd h (by decide), fun h => absurd h c⟩
theorem in_1 {σ : pr_I} {a b c : Int64} (h1 : b ≤ a) (h2 : a ≤ c) : m_in_r σ a b c = 1 := by
  have q1 := Int64.le_iff_toInt_le.mp h1
  have q2 := Int64.le_iff_toInt_le.mp h2
  unfold m_in_r
  rw [if_neg (fun h => by have := Int64.lt_iff_toInt_lt.mp (lg_lt0.mp h); omega), if_neg (fun h => by have := Int64.lt_iff_toInt_lt.mp (lg_gt0.mp h); omega)]
theorem in_0 {σ : pr_I} {a b c : Int64} (h : a < b ∨ c < a) : m_in_r σ a b c = 0 := by
  unfold m_in_r
  by_cases q : lg_cmp a b < 0
  · rw [if_pos q]
  · rw [if_neg q]
    rcases h with h | h
    · exact absurd (lg_lt0.mpr h) q
    · rw [if_pos (lg_gt0.mpr h)]
theorem i64_le {a b : Int32} (h : a ≤ b) : a.toInt64 ≤ b.toInt64 := by
  rw [Int64.le_iff_toInt_le, Int32.toInt_toInt64, Int32.toInt_toInt64]; exact Int32.le_iff_toInt_le.mp h
theorem i64_lt {a b : Int32} (h : a < b) : a.toInt64 < b.toInt64 := by
  rw [Int64.lt_iff_toInt_lt, Int32.toInt_toInt64, Int32.toInt_toInt64]; exact Int32.lt_iff_toInt_lt.mp h
theorem in_z1 {σ : pr_I} {z a b : Int32} {A B : Int64} (h1 : a ≤ z) (h2 : z ≤ b) (eA : a.toInt64 = A) (eB : b.toInt64 = B) : m_in_r σ z.toInt64 A B = 1 := by
  subst eA; subst eB; exact in_1 (i64_le h1) (i64_le h2)
theorem in_z0 {σ : pr_I} {z a b : Int32} {A B : Int64} (h : z < a ∨ b < z) (eA : a.toInt64 = A) (eB : b.toInt64 = B) : m_in_r σ z.toInt64 A B = 0 := by
  subst eA; subst eB; exact in_0 (h.imp i64_lt i64_lt)
theorem nI_m1 {n : Nat} (hn : n < 2 ^ 31) : (nI n - 1).toInt = (n : Int) - 1 := by
  cases n with
  | zero => decide
  | succ k => rw [nI_pred]; have := Int32.toInt_ofNat_of_lt (n := k) (by omega); show (Int32.ofNat k).toInt = _; rw [this]; omega
theorem nI_toI {n : Nat} (hn : n < 2 ^ 31) : (nI n).toInt = n := Int32.toInt_ofNat_of_lt hn
theorem inK1 {σ : pr_I} {k n : Nat} (h : k < n) (hn : n < 2 ^ 31) : m_in_r σ (nI k).toInt64 0 (nI n - 1).toInt64 = 1 := by
  refine in_z1 (a := 0) (b := nI n - 1) ?_ ?_ (by decide) rfl
  · exact Int32.le_iff_toInt_le.mpr (by rw [nI_toI (by omega)]; show (0 : Int) ≤ _; omega)
  · exact Int32.le_iff_toInt_le.mpr (by rw [nI_toI (by omega), nI_m1 hn]; omega)
theorem in_c1 {σ : pr_I} {c B : Nat} {D : Int64} (h : c ≤ B) (hB : B < 2 ^ 31) (e : (nI B).toInt64 = D) : m_in_r σ (nI c).toInt64 0 D = 1 := in_z1 (a := 0) (b := nI B) (nI_r0 h hB).1 (nI_r0 h hB).2 (by decide) e
theorem inK0 {σ : pr_I} {x : Int32} {n : Nat} (h : ¬ vp_in x n) (hn : n < 2 ^ 31) : m_in_r σ x.toInt64 0 (nI n - 1).toInt64 = 0 := by
  refine in_z0 (a := 0) (b := nI n - 1) ?_ (by decide) rfl
  by_cases c : x < 0
  · exact Or.inl c
  · refine Or.inr (Int32.lt_iff_toInt_lt.mpr ?_)
    rw [nI_m1 hn]
    rcases Int.lt_or_le ((n : Int) - 1) x.toInt with q | q
    · exact q
    · exact absurd (vpi_of (Int32.not_lt.mp c) (by omega)) h
theorem ti_0 {σ : pr_I} {c : Int32} (h : σ 0 6 = 0) : m_ti_r σ 0 c = 0 ∧ m_ti σ 0 c = σ := by
  unfold m_ti_r m_ti
  rw [if_pos h, if_pos rfl, if_pos h, if_pos h, if_pos rfl]; exact ⟨rfl, rfl⟩
theorem ti_1 {σ : pr_I} {c : Int32} (h : σ 0 6 = 0) (hc : c ≠ 0) : m_ti_r σ 1 c = 1 ∧ m_ti σ 1 c = pr_up σ 0 6 c := by
  unfold m_ti_r m_ti
  rw [if_pos h, if_neg (by decide), if_neg hc, if_pos h, if_neg (by decide)]; exact ⟨rfl, rfl⟩
theorem c_inE {g : pr_C} {l : Launch} (hl : l.stackTraces = false) {T : pr_T} {I : pr_I} {L : pr_L} {m : Nat} {σ : pr_I} {a b c : Int64} {v : Int32} (hm : pr_Mo T m) (h : m_in_r σ a b c = v) : pr_M g l 1 0 0 mX8_in [.long a, .long b, .long c] T (rg_put I m 16 σ) L (pr_R (some (.int v)) T (rg_put I m 16 σ) L) pr_no := by
  have e := c_m_in (g := g) (I := I) (L := L) (σ := σ) (a := a) (b := b) (c := c) hl hm
  rw [h] at e; exact e
theorem c_tiE {g : pr_C} {l : Launch} (hl : l.stackTraces = false) {T : pr_T} {I : pr_I} {L : pr_L} {m : Nat} {σ : pr_I} {b c : Int32} {v : Int32} {σ' : pr_I} (hm : pr_Mo T m) (h : m_ti_r σ b c = v ∧ m_ti σ b c = σ') : pr_M g l 2 0 0 mX8_throwsIf [.ref m, .int b, .int c] T (rg_put I m 16 σ) L (pr_R (some (.int v)) T (rg_put I m 16 σ') L) pr_no := by
  have e := c_m_ti (g := g) (I := I) (L := L) (σ := σ) (b := b) (c := c) hl hm
  rw [h.1, h.2] at e; exact e
theorem pr_up_two {σ : pr_I} {o k : Nat} {u v : Int32} : pr_up (pr_up σ o k u) o k v = pr_up σ o k v := by
  funext b j; unfold pr_up; by_cases c : b = o ∧ j = k <;> simp [c]
set_option maxRecDepth 100000 in
set_option maxHeartbeats 400000 in
theorem c_nl_ok {g : pr_C} {l : Launch} (hl : l.stackTraces = false) {T : pr_T} {I : pr_I} {L : pr_L} {m : Nat} {σ : pr_I} {k : Nat} (hm : pr_Mo T m) (hI : mI σ) (hk : k < mln σ) : pr_M g l 4 0 0 mX8_noLink [.ref m, .int (nI k)] T (rg_put I m 16 σ) L (pr_R (some (.int (0 : Int32))) T (rg_put I m 16 (pr_up σ 0 6 (0 : Int32))) L) pr_no := by
  refine pr_ofG (by decide) rfl hl (Nat.le_of_ble_eq_true rfl) (fun X hA hX hXn hXt => ?_)
  subst hX
  show pr_G g X mX8_noLink.2.2.1 _ 0 0 0 [.ref m, .int (nI k)] [] T (rg_put I m 16 σ) L
  have hn5 := mI_n5 hI
  have hr4 := mI_nr4 hI
  have hl24 := mI_nl24 hI
  have hn12 := mI_nn12 hI
  refine pr_aload_n hA dX8_noLink_0 rfl ?_
  refine pr_iconst hA (0) dX8_noLink_1 (by decide) ?_
  refine pr_putE (I' := (rg_put I m 16 (pr_up σ 0 6 (0 : Int32)))) hA f_X8_60 rfl (mo_k0 hm) (rg_up0 (by decide)) dX8_noLink_2 ?_
  refine pr_aload_n hA dX8_noLink_5 rfl ?_
  refine pr_iload_n hA dX8_noLink_6 rfl ?_
  refine pr_i2l hA dX8_noLink_7 ?_
  refine pr_lconst hA 0 dX8_noLink_8 (by decide) ?_
  refine pr_aload_n hA dX8_noLink_9 rfl ?_
  refine pr_getR hA f_X8_9 rfl (mo_k0 hm) (mo_f0_0 hm) dX8_noLink_10 ?_
  refine pr_bipush hA (nI 7) dX8_noLink_13 (by decide) ?_
  refine pr_ialdM (v := (nI (mln σ))) hA (mo_k1 hm) (by omega) (by omega) ((rg_val (by decide)).trans ((pr_upv (by decide)).trans (mI_nl hI))) dX8_noLink_15 ?_
  refine pr_iconst hA (1) dX8_noLink_16 (by decide) ?_
  refine pr_isub hA dX8_noLink_17 ?_
  refine pr_i2l hA dX8_noLink_18 ?_
  refine pr_callSi hA [.long (((nI k)).toInt64), .long (0 : Int64), .long ((((nI (mln σ)) - (1 : Int32))).toInt64)] (c_inE (m := m) (σ := (pr_up σ 0 6 (0 : Int32))) (v := 1) (pr_hl hA) hm (inK1 (by omega) (by omega))) s_X8_80 rfl (by decide) (Nat.zero_le _) (Nat.zero_le _) rfl (Nat.le_of_ble_eq_true rfl) dX8_noLink_19 ?_
  refine pr_if_ne hA 29 dX8_noLink_22 (by decide) (fun c_22 => ?_) (fun c_22 => ?_)
  · refine pr_iconst hA (0) dX8_noLink_29 (by decide) ?_
    refine pr_iconst hA (1) dX8_noLink_30 (by decide) ?_
    refine pr_callVi hA [.int (0 : Int32), .int (1 : Int32)] (c_tiE (m := m) (σ := (pr_up σ 0 6 (0 : Int32))) (pr_hl hA) hm (ti_0 pr_upe)) v_X8_301 (mo_k0 hm) (by decide) rfl rfl rfl (by decide) (Nat.zero_le _) (Nat.zero_le _) rfl (Nat.le_of_ble_eq_true rfl) dX8_noLink_31 ?_
    exact pr_ireturn hA rfl (pr_nb (by first | decide | (split <;> simp))) (Nat.zero_le _) (Nat.zero_le _) dX8_noLink_34 ⟨rfl, rfl, rfl, rfl⟩
  · exact absurd c_22 (by decide)

set_option maxRecDepth 100000 in
set_option maxHeartbeats 400000 in
theorem c_nl_bad {g : pr_C} {l : Launch} (hl : l.stackTraces = false) {T : pr_T} {I : pr_I} {L : pr_L} {m : Nat} {σ : pr_I} {x : Int32} (hm : pr_Mo T m) (hI : mI σ) (hx : ¬ vp_in x (mln σ)) : pr_M g l 4 0 0 mX8_noLink [.ref m, .int x] T (rg_put I m 16 σ) L (pr_R (some (.int (1 : Int32))) T (rg_put I m 16 (pr_up σ 0 6 (1 : Int32))) L) pr_no := by
  refine pr_ofG (by decide) rfl hl (Nat.le_of_ble_eq_true rfl) (fun X hA hX hXn hXt => ?_)
  subst hX
  show pr_G g X mX8_noLink.2.2.1 _ 0 0 0 [.ref m, .int x] [] T (rg_put I m 16 σ) L
  have hn5 := mI_n5 hI
  have hr4 := mI_nr4 hI
  have hl24 := mI_nl24 hI
  have hn12 := mI_nn12 hI
  refine pr_aload_n hA dX8_noLink_0 rfl ?_
  refine pr_iconst hA (0) dX8_noLink_1 (by decide) ?_
  refine pr_putE (I' := (rg_put I m 16 (pr_up σ 0 6 (0 : Int32)))) hA f_X8_60 rfl (mo_k0 hm) (rg_up0 (by decide)) dX8_noLink_2 ?_
  refine pr_aload_n hA dX8_noLink_5 rfl ?_
  refine pr_iload_n hA dX8_noLink_6 rfl ?_
  refine pr_i2l hA dX8_noLink_7 ?_
  refine pr_lconst hA 0 dX8_noLink_8 (by decide) ?_
  refine pr_aload_n hA dX8_noLink_9 rfl ?_
  refine pr_getR hA f_X8_9 rfl (mo_k0 hm) (mo_f0_0 hm) dX8_noLink_10 ?_
  refine pr_bipush hA (nI 7) dX8_noLink_13 (by decide) ?_
  refine pr_ialdM (v := (nI (mln σ))) hA (mo_k1 hm) (by omega) (by omega) ((rg_val (by decide)).trans ((pr_upv (by decide)).trans (mI_nl hI))) dX8_noLink_15 ?_
  refine pr_iconst hA (1) dX8_noLink_16 (by decide) ?_
  refine pr_isub hA dX8_noLink_17 ?_
  refine pr_i2l hA dX8_noLink_18 ?_
  refine pr_callSi hA [.long ((x).toInt64), .long (0 : Int64), .long ((((nI (mln σ)) - (1 : Int32))).toInt64)] (c_inE (m := m) (σ := (pr_up σ 0 6 (0 : Int32))) (v := 0) (pr_hl hA) hm (inK0 hx (by omega))) s_X8_80 rfl (by decide) (Nat.zero_le _) (Nat.zero_le _) rfl (Nat.le_of_ble_eq_true rfl) dX8_noLink_19 ?_
  refine pr_if_ne hA 29 dX8_noLink_22 (by decide) (fun c_22 => ?_) (fun c_22 => ?_)
  · exact (c_22 (by decide)).elim
  · refine pr_iconst hA (1) dX8_noLink_25 (by decide) ?_
    refine pr_goto hA 30 dX8_noLink_26 (by decide) ?_
    refine pr_iconst hA (1) dX8_noLink_30 (by decide) ?_
    refine pr_callVi hA [.int (1 : Int32), .int (1 : Int32)] (c_tiE (m := m) (σ := (pr_up σ 0 6 (0 : Int32))) (pr_hl hA) hm (ti_1 pr_upe (by decide))) v_X8_301 (mo_k0 hm) (by decide) rfl rfl rfl (by decide) (Nat.zero_le _) (Nat.zero_le _) rfl (Nat.le_of_ble_eq_true rfl) dX8_noLink_31 ?_
    exact pr_ireturn hA rfl (pr_nb (by first | decide | (split <;> simp))) (Nat.zero_le _) (Nat.zero_le _) dX8_noLink_34 ⟨rfl, rfl, (by simp only [pr_up_two]), rfl⟩

set_option maxRecDepth 100000 in
set_option maxHeartbeats 400000 in
theorem c_nq_ok {g : pr_C} {l : Launch} (hl : l.stackTraces = false) {T : pr_T} {I : pr_I} {L : pr_L} {m : Nat} {σ : pr_I} {k : Nat} (hm : pr_Mo T m) (hI : mI σ) (hk : k < mrn σ) : pr_M g l 4 0 0 mX8_noRequest [.ref m, .int (nI k)] T (rg_put I m 16 σ) L (pr_R (some (.int (0 : Int32))) T (rg_put I m 16 (pr_up σ 0 6 (0 : Int32))) L) pr_no := by
  refine pr_ofG (by decide) rfl hl (Nat.le_of_ble_eq_true rfl) (fun X hA hX hXn hXt => ?_)
  subst hX
  show pr_G g X mX8_noRequest.2.2.1 _ 0 0 0 [.ref m, .int (nI k)] [] T (rg_put I m 16 σ) L
  have hn5 := mI_n5 hI
  have hr4 := mI_nr4 hI
  have hl24 := mI_nl24 hI
  have hn12 := mI_nn12 hI
  refine pr_aload_n hA dX8_noRequest_0 rfl ?_
  refine pr_iconst hA (0) dX8_noRequest_1 (by decide) ?_
  refine pr_putE (I' := (rg_put I m 16 (pr_up σ 0 6 (0 : Int32)))) hA f_X8_60 rfl (mo_k0 hm) (rg_up0 (by decide)) dX8_noRequest_2 ?_
  refine pr_aload_n hA dX8_noRequest_5 rfl ?_
  refine pr_iload_n hA dX8_noRequest_6 rfl ?_
  refine pr_i2l hA dX8_noRequest_7 ?_
  refine pr_lconst hA 0 dX8_noRequest_8 (by decide) ?_
  refine pr_aload_n hA dX8_noRequest_9 rfl ?_
  refine pr_getR hA f_X8_9 rfl (mo_k0 hm) (mo_f0_0 hm) dX8_noRequest_10 ?_
  refine pr_bipush hA (nI 8) dX8_noRequest_13 (by decide) ?_
  refine pr_ialdM (v := (nI (mrn σ))) hA (mo_k1 hm) (by omega) (by omega) ((rg_val (by decide)).trans ((pr_upv (by decide)).trans (mI_nr hI))) dX8_noRequest_15 ?_
  refine pr_iconst hA (1) dX8_noRequest_16 (by decide) ?_
  refine pr_isub hA dX8_noRequest_17 ?_
  refine pr_i2l hA dX8_noRequest_18 ?_
  refine pr_callSi hA [.long (((nI k)).toInt64), .long (0 : Int64), .long ((((nI (mrn σ)) - (1 : Int32))).toInt64)] (c_inE (m := m) (σ := (pr_up σ 0 6 (0 : Int32))) (v := 1) (pr_hl hA) hm (inK1 (by omega) (by omega))) s_X8_80 rfl (by decide) (Nat.zero_le _) (Nat.zero_le _) rfl (Nat.le_of_ble_eq_true rfl) dX8_noRequest_19 ?_
  refine pr_if_ne hA 29 dX8_noRequest_22 (by decide) (fun c_22 => ?_) (fun c_22 => ?_)
  · refine pr_iconst hA (0) dX8_noRequest_29 (by decide) ?_
    refine pr_iconst hA (1) dX8_noRequest_30 (by decide) ?_
    refine pr_callVi hA [.int (0 : Int32), .int (1 : Int32)] (c_tiE (m := m) (σ := (pr_up σ 0 6 (0 : Int32))) (pr_hl hA) hm (ti_0 pr_upe)) v_X8_301 (mo_k0 hm) (by decide) rfl rfl rfl (by decide) (Nat.zero_le _) (Nat.zero_le _) rfl (Nat.le_of_ble_eq_true rfl) dX8_noRequest_31 ?_
    exact pr_ireturn hA rfl (pr_nb (by first | decide | (split <;> simp))) (Nat.zero_le _) (Nat.zero_le _) dX8_noRequest_34 ⟨rfl, rfl, rfl, rfl⟩
  · exact absurd c_22 (by decide)

set_option maxRecDepth 100000 in
set_option maxHeartbeats 400000 in
theorem c_nq_bad {g : pr_C} {l : Launch} (hl : l.stackTraces = false) {T : pr_T} {I : pr_I} {L : pr_L} {m : Nat} {σ : pr_I} {x : Int32} (hm : pr_Mo T m) (hI : mI σ) (hx : ¬ vp_in x (mrn σ)) : pr_M g l 4 0 0 mX8_noRequest [.ref m, .int x] T (rg_put I m 16 σ) L (pr_R (some (.int (1 : Int32))) T (rg_put I m 16 (pr_up σ 0 6 (1 : Int32))) L) pr_no := by
  refine pr_ofG (by decide) rfl hl (Nat.le_of_ble_eq_true rfl) (fun X hA hX hXn hXt => ?_)
  subst hX
  show pr_G g X mX8_noRequest.2.2.1 _ 0 0 0 [.ref m, .int x] [] T (rg_put I m 16 σ) L
  have hn5 := mI_n5 hI
  have hr4 := mI_nr4 hI
  have hl24 := mI_nl24 hI
  have hn12 := mI_nn12 hI
  refine pr_aload_n hA dX8_noRequest_0 rfl ?_
  refine pr_iconst hA (0) dX8_noRequest_1 (by decide) ?_
  refine pr_putE (I' := (rg_put I m 16 (pr_up σ 0 6 (0 : Int32)))) hA f_X8_60 rfl (mo_k0 hm) (rg_up0 (by decide)) dX8_noRequest_2 ?_
  refine pr_aload_n hA dX8_noRequest_5 rfl ?_
  refine pr_iload_n hA dX8_noRequest_6 rfl ?_
  refine pr_i2l hA dX8_noRequest_7 ?_
  refine pr_lconst hA 0 dX8_noRequest_8 (by decide) ?_
  refine pr_aload_n hA dX8_noRequest_9 rfl ?_
  refine pr_getR hA f_X8_9 rfl (mo_k0 hm) (mo_f0_0 hm) dX8_noRequest_10 ?_
  refine pr_bipush hA (nI 8) dX8_noRequest_13 (by decide) ?_
  refine pr_ialdM (v := (nI (mrn σ))) hA (mo_k1 hm) (by omega) (by omega) ((rg_val (by decide)).trans ((pr_upv (by decide)).trans (mI_nr hI))) dX8_noRequest_15 ?_
  refine pr_iconst hA (1) dX8_noRequest_16 (by decide) ?_
  refine pr_isub hA dX8_noRequest_17 ?_
  refine pr_i2l hA dX8_noRequest_18 ?_
  refine pr_callSi hA [.long ((x).toInt64), .long (0 : Int64), .long ((((nI (mrn σ)) - (1 : Int32))).toInt64)] (c_inE (m := m) (σ := (pr_up σ 0 6 (0 : Int32))) (v := 0) (pr_hl hA) hm (inK0 hx (by omega))) s_X8_80 rfl (by decide) (Nat.zero_le _) (Nat.zero_le _) rfl (Nat.le_of_ble_eq_true rfl) dX8_noRequest_19 ?_
  refine pr_if_ne hA 29 dX8_noRequest_22 (by decide) (fun c_22 => ?_) (fun c_22 => ?_)
  · exact (c_22 (by decide)).elim
  · refine pr_iconst hA (1) dX8_noRequest_25 (by decide) ?_
    refine pr_goto hA 30 dX8_noRequest_26 (by decide) ?_
    refine pr_iconst hA (1) dX8_noRequest_30 (by decide) ?_
    refine pr_callVi hA [.int (1 : Int32), .int (1 : Int32)] (c_tiE (m := m) (σ := (pr_up σ 0 6 (0 : Int32))) (pr_hl hA) hm (ti_1 pr_upe (by decide))) v_X8_301 (mo_k0 hm) (by decide) rfl rfl rfl (by decide) (Nat.zero_le _) (Nat.zero_le _) rfl (Nat.le_of_ble_eq_true rfl) dX8_noRequest_31 ?_
    exact pr_ireturn hA rfl (pr_nb (by first | decide | (split <;> simp))) (Nat.zero_le _) (Nat.zero_le _) dX8_noRequest_34 ⟨rfl, rfl, (by simp only [pr_up_two]), rfl⟩

set_option maxRecDepth 100000 in
set_option maxHeartbeats 400000 in
theorem c_nt_ok {g : pr_C} {l : Launch} (hl : l.stackTraces = false) {T : pr_T} {I : pr_I} {L : pr_L} {m : Nat} {σ : pr_I} {z c : Int32} (hm : pr_Mo T m) (h06 : σ 0 6 = 0) (hI : mI σ) (h1 : 0 ≤ z) (h2 : z ≤ 2000) : pr_M g l 4 0 0 mX8_noTicks [.ref m, .int z, .int c] T (rg_put I m 16 σ) L (pr_R (some (.int (0 : Int32))) T (rg_put I m 16 σ) L) pr_no := by
  refine pr_ofG (by decide) rfl hl (Nat.le_of_ble_eq_true rfl) (fun X hA hX hXn hXt => ?_)
  subst hX
  show pr_G g X mX8_noTicks.2.2.1 _ 0 0 0 [.ref m, .int z, .int c] [] T (rg_put I m 16 σ) L
  have hn5 := mI_n5 hI
  have hr4 := mI_nr4 hI
  have hl24 := mI_nl24 hI
  have hn12 := mI_nn12 hI
  refine pr_aload_n hA dX8_noTicks_0 rfl ?_
  refine pr_iload_n hA dX8_noTicks_1 rfl ?_
  refine pr_i2l hA dX8_noTicks_2 ?_
  refine pr_lconst hA 0 dX8_noTicks_3 (by decide) ?_
  refine pr_ldc2 hA kK_X8_396 dX8_noTicks_4 ?_
  refine pr_callSi hA [.long ((z).toInt64), .long (0 : Int64), .long (2000 : Int64)] (c_inE (m := m) (σ := σ) (v := 1) (pr_hl hA) hm (in_z1 h1 h2 (by decide) (by decide))) s_X8_80 rfl (by decide) (Nat.zero_le _) (Nat.zero_le _) rfl (Nat.le_of_ble_eq_true rfl) dX8_noTicks_7 ?_
  refine pr_if_ne hA 17 dX8_noTicks_10 (by decide) (fun c_10 => ?_) (fun c_10 => ?_)
  · refine pr_iconst hA (0) dX8_noTicks_17 (by decide) ?_
    refine pr_iload_n hA dX8_noTicks_18 rfl ?_
    refine pr_callVi hA [.int (0 : Int32), .int c] (c_tiE (m := m) (σ := σ) (pr_hl hA) hm (ti_0 h06)) v_X8_301 (mo_k0 hm) (by decide) rfl rfl rfl (by decide) (Nat.zero_le _) (Nat.zero_le _) rfl (Nat.le_of_ble_eq_true rfl) dX8_noTicks_19 ?_
    exact pr_ireturn hA rfl (pr_nb (by first | decide | (split <;> simp))) (Nat.zero_le _) (Nat.zero_le _) dX8_noTicks_22 ⟨rfl, rfl, rfl, rfl⟩
  · exact absurd c_10 (by decide)

set_option maxRecDepth 100000 in
set_option maxHeartbeats 400000 in
theorem c_nt_bad {g : pr_C} {l : Launch} (hl : l.stackTraces = false) {T : pr_T} {I : pr_I} {L : pr_L} {m : Nat} {σ : pr_I} {z c : Int32} (hm : pr_Mo T m) (h06 : σ 0 6 = 0) (hI : mI σ) (hc : c ≠ 0) (hz : z < 0 ∨ 2000 < z) : pr_M g l 4 0 0 mX8_noTicks [.ref m, .int z, .int c] T (rg_put I m 16 σ) L (pr_R (some (.int (1 : Int32))) T (rg_put I m 16 (pr_up σ 0 6 c)) L) pr_no := by
  refine pr_ofG (by decide) rfl hl (Nat.le_of_ble_eq_true rfl) (fun X hA hX hXn hXt => ?_)
  subst hX
  show pr_G g X mX8_noTicks.2.2.1 _ 0 0 0 [.ref m, .int z, .int c] [] T (rg_put I m 16 σ) L
  have hn5 := mI_n5 hI
  have hr4 := mI_nr4 hI
  have hl24 := mI_nl24 hI
  have hn12 := mI_nn12 hI
  refine pr_aload_n hA dX8_noTicks_0 rfl ?_
  refine pr_iload_n hA dX8_noTicks_1 rfl ?_
  refine pr_i2l hA dX8_noTicks_2 ?_
  refine pr_lconst hA 0 dX8_noTicks_3 (by decide) ?_
  refine pr_ldc2 hA kK_X8_396 dX8_noTicks_4 ?_
  refine pr_callSi hA [.long ((z).toInt64), .long (0 : Int64), .long (2000 : Int64)] (c_inE (m := m) (σ := σ) (v := 0) (pr_hl hA) hm (in_z0 hz (by decide) (by decide))) s_X8_80 rfl (by decide) (Nat.zero_le _) (Nat.zero_le _) rfl (Nat.le_of_ble_eq_true rfl) dX8_noTicks_7 ?_
  refine pr_if_ne hA 17 dX8_noTicks_10 (by decide) (fun c_10 => ?_) (fun c_10 => ?_)
  · exact (c_10 (by decide)).elim
  · refine pr_iconst hA (1) dX8_noTicks_13 (by decide) ?_
    refine pr_goto hA 18 dX8_noTicks_14 (by decide) ?_
    refine pr_iload_n hA dX8_noTicks_18 rfl ?_
    refine pr_callVi hA [.int (1 : Int32), .int c] (c_tiE (m := m) (σ := σ) (pr_hl hA) hm (ti_1 h06 hc)) v_X8_301 (mo_k0 hm) (by decide) rfl rfl rfl (by decide) (Nat.zero_le _) (Nat.zero_le _) rfl (Nat.le_of_ble_eq_true rfl) dX8_noTicks_19 ?_
    exact pr_ireturn hA rfl (pr_nb (by first | decide | (split <;> simp))) (Nat.zero_le _) (Nat.zero_le _) dX8_noTicks_22 ⟨rfl, rfl, rfl, rfl⟩

set_option maxRecDepth 100000 in
set_option maxHeartbeats 400000 in
theorem c_ns_ok {g : pr_C} {l : Launch} (hl : l.stackTraces = false) {T : pr_T} {I : pr_I} {L : pr_L} {m : Nat} {σ : pr_I} {k : Nat} (hm : pr_Mo T m) (hI : mI σ) (hk : k ≤ 1) : pr_M g l 4 0 0 mX8_noSlot [.ref m, .int (nI k)] T (rg_put I m 16 σ) L (pr_R (some (.int (0 : Int32))) T (rg_put I m 16 (pr_up σ 0 6 (0 : Int32))) L) pr_no := by
  refine pr_ofG (by decide) rfl hl (Nat.le_of_ble_eq_true rfl) (fun X hA hX hXn hXt => ?_)
  subst hX
  show pr_G g X mX8_noSlot.2.2.1 _ 0 0 0 [.ref m, .int (nI k)] [] T (rg_put I m 16 σ) L
  have hn5 := mI_n5 hI
  have hr4 := mI_nr4 hI
  have hl24 := mI_nl24 hI
  have hn12 := mI_nn12 hI
  refine pr_aload_n hA dX8_noSlot_0 rfl ?_
  refine pr_iconst hA (0) dX8_noSlot_1 (by decide) ?_
  refine pr_putE (I' := (rg_put I m 16 (pr_up σ 0 6 (0 : Int32)))) hA f_X8_60 rfl (mo_k0 hm) (rg_up0 (by decide)) dX8_noSlot_2 ?_
  refine pr_aload_n hA dX8_noSlot_5 rfl ?_
  refine pr_iload_n hA dX8_noSlot_6 rfl ?_
  refine pr_i2l hA dX8_noSlot_7 ?_
  refine pr_lconst hA 0 dX8_noSlot_8 (by decide) ?_
  refine pr_lconst hA 1 dX8_noSlot_9 (by decide) ?_
  refine pr_callSi hA [.long (((nI k)).toInt64), .long (0 : Int64), .long (1 : Int64)] (c_inE (m := m) (σ := (pr_up σ 0 6 (0 : Int32))) (v := 1) (pr_hl hA) hm (in_c1 (B := 1) (by omega) (by decide) (by decide))) s_X8_80 rfl (by decide) (Nat.zero_le _) (Nat.zero_le _) rfl (Nat.le_of_ble_eq_true rfl) dX8_noSlot_10 ?_
  refine pr_if_ne hA 20 dX8_noSlot_13 (by decide) (fun c_13 => ?_) (fun c_13 => ?_)
  · refine pr_iconst hA (0) dX8_noSlot_20 (by decide) ?_
    refine pr_iconst hA (1) dX8_noSlot_21 (by decide) ?_
    refine pr_callVi hA [.int (0 : Int32), .int (1 : Int32)] (c_tiE (m := m) (σ := (pr_up σ 0 6 (0 : Int32))) (pr_hl hA) hm (ti_0 pr_upe)) v_X8_301 (mo_k0 hm) (by decide) rfl rfl rfl (by decide) (Nat.zero_le _) (Nat.zero_le _) rfl (Nat.le_of_ble_eq_true rfl) dX8_noSlot_22 ?_
    exact pr_ireturn hA rfl (pr_nb (by first | decide | (split <;> simp))) (Nat.zero_le _) (Nat.zero_le _) dX8_noSlot_25 ⟨rfl, rfl, rfl, rfl⟩
  · exact absurd c_13 (by decide)

set_option maxRecDepth 100000 in
set_option maxHeartbeats 400000 in
theorem c_ns_bad {g : pr_C} {l : Launch} (hl : l.stackTraces = false) {T : pr_T} {I : pr_I} {L : pr_L} {m : Nat} {σ : pr_I} {z : Int32} (hm : pr_Mo T m) (hI : mI σ) (hz : z < 0 ∨ 1 < z) : pr_M g l 4 0 0 mX8_noSlot [.ref m, .int z] T (rg_put I m 16 σ) L (pr_R (some (.int (1 : Int32))) T (rg_put I m 16 (pr_up σ 0 6 (1 : Int32))) L) pr_no := by
  refine pr_ofG (by decide) rfl hl (Nat.le_of_ble_eq_true rfl) (fun X hA hX hXn hXt => ?_)
  subst hX
  show pr_G g X mX8_noSlot.2.2.1 _ 0 0 0 [.ref m, .int z] [] T (rg_put I m 16 σ) L
  have hn5 := mI_n5 hI
  have hr4 := mI_nr4 hI
  have hl24 := mI_nl24 hI
  have hn12 := mI_nn12 hI
  refine pr_aload_n hA dX8_noSlot_0 rfl ?_
  refine pr_iconst hA (0) dX8_noSlot_1 (by decide) ?_
  refine pr_putE (I' := (rg_put I m 16 (pr_up σ 0 6 (0 : Int32)))) hA f_X8_60 rfl (mo_k0 hm) (rg_up0 (by decide)) dX8_noSlot_2 ?_
  refine pr_aload_n hA dX8_noSlot_5 rfl ?_
  refine pr_iload_n hA dX8_noSlot_6 rfl ?_
  refine pr_i2l hA dX8_noSlot_7 ?_
  refine pr_lconst hA 0 dX8_noSlot_8 (by decide) ?_
  refine pr_lconst hA 1 dX8_noSlot_9 (by decide) ?_
  refine pr_callSi hA [.long ((z).toInt64), .long (0 : Int64), .long (1 : Int64)] (c_inE (m := m) (σ := (pr_up σ 0 6 (0 : Int32))) (v := 0) (pr_hl hA) hm (in_z0 hz (by decide) (by decide))) s_X8_80 rfl (by decide) (Nat.zero_le _) (Nat.zero_le _) rfl (Nat.le_of_ble_eq_true rfl) dX8_noSlot_10 ?_
  refine pr_if_ne hA 20 dX8_noSlot_13 (by decide) (fun c_13 => ?_) (fun c_13 => ?_)
  · exact (c_13 (by decide)).elim
  · refine pr_iconst hA (1) dX8_noSlot_16 (by decide) ?_
    refine pr_goto hA 21 dX8_noSlot_17 (by decide) ?_
    refine pr_iconst hA (1) dX8_noSlot_21 (by decide) ?_
    refine pr_callVi hA [.int (1 : Int32), .int (1 : Int32)] (c_tiE (m := m) (σ := (pr_up σ 0 6 (0 : Int32))) (pr_hl hA) hm (ti_1 pr_upe (by decide))) v_X8_301 (mo_k0 hm) (by decide) rfl rfl rfl (by decide) (Nat.zero_le _) (Nat.zero_le _) rfl (Nat.le_of_ble_eq_true rfl) dX8_noSlot_22 ?_
    exact pr_ireturn hA rfl (pr_nb (by first | decide | (split <;> simp))) (Nat.zero_le _) (Nat.zero_le _) dX8_noSlot_25 ⟨rfl, rfl, (by simp only [pr_up_two]), rfl⟩

set_option maxRecDepth 100000 in
set_option maxHeartbeats 400000 in
theorem c_nd_ok {g : pr_C} {l : Launch} (hl : l.stackTraces = false) {T : pr_T} {I : pr_I} {L : pr_L} {m : Nat} {σ : pr_I} {k : Nat} (hm : pr_Mo T m) (hI : mI σ) (hk : k < mnn σ) : pr_M g l 4 0 0 mX8_isNode [.ref m, .int (nI k)] T (rg_put I m 16 σ) L (pr_R (some (.int (1 : Int32))) T (rg_put I m 16 σ) L) pr_no := by
  refine pr_ofG (by decide) rfl hl (Nat.le_of_ble_eq_true rfl) (fun X hA hX hXn hXt => ?_)
  subst hX
  show pr_G g X mX8_isNode.2.2.1 _ 0 0 0 [.ref m, .int (nI k)] [] T (rg_put I m 16 σ) L
  have hn5 := mI_n5 hI
  have hr4 := mI_nr4 hI
  have hl24 := mI_nl24 hI
  have hn12 := mI_nn12 hI
  refine pr_iload_n hA dX8_isNode_0 rfl ?_
  refine pr_i2l hA dX8_isNode_1 ?_
  refine pr_lconst hA 0 dX8_isNode_2 (by decide) ?_
  refine pr_aload_n hA dX8_isNode_3 rfl ?_
  refine pr_getR hA f_X8_9 rfl (mo_k0 hm) (mo_f0_0 hm) dX8_isNode_4 ?_
  refine pr_bipush hA (nI 6) dX8_isNode_7 (by decide) ?_
  refine pr_ialdM (v := (nI (mnn σ))) hA (mo_k1 hm) (by omega) (by omega) ((rg_val (by decide)).trans (mI_nn hI)) dX8_isNode_9 ?_
  refine pr_iconst hA (1) dX8_isNode_10 (by decide) ?_
  refine pr_isub hA dX8_isNode_11 ?_
  refine pr_i2l hA dX8_isNode_12 ?_
  refine pr_callSi hA [.long (((nI k)).toInt64), .long (0 : Int64), .long ((((nI (mnn σ)) - (1 : Int32))).toInt64)] (c_inE (m := m) (σ := σ) (v := 1) (pr_hl hA) hm (inK1 (by omega) (by omega))) s_X8_80 rfl (by decide) (Nat.zero_le _) (Nat.zero_le _) rfl (Nat.le_of_ble_eq_true rfl) dX8_isNode_13 ?_
  exact pr_ireturn hA rfl (pr_nb (by first | decide | (split <;> simp))) (Nat.zero_le _) (Nat.zero_le _) dX8_isNode_16 ⟨rfl, rfl, rfl, rfl⟩

set_option maxRecDepth 100000 in
set_option maxHeartbeats 400000 in
theorem c_nd_bad {g : pr_C} {l : Launch} (hl : l.stackTraces = false) {T : pr_T} {I : pr_I} {L : pr_L} {m : Nat} {σ : pr_I} {x : Int32} (hm : pr_Mo T m) (hI : mI σ) (hx : ¬ vp_in x (mnn σ)) : pr_M g l 4 0 0 mX8_isNode [.ref m, .int x] T (rg_put I m 16 σ) L (pr_R (some (.int (0 : Int32))) T (rg_put I m 16 σ) L) pr_no := by
  refine pr_ofG (by decide) rfl hl (Nat.le_of_ble_eq_true rfl) (fun X hA hX hXn hXt => ?_)
  subst hX
  show pr_G g X mX8_isNode.2.2.1 _ 0 0 0 [.ref m, .int x] [] T (rg_put I m 16 σ) L
  have hn5 := mI_n5 hI
  have hr4 := mI_nr4 hI
  have hl24 := mI_nl24 hI
  have hn12 := mI_nn12 hI
  refine pr_iload_n hA dX8_isNode_0 rfl ?_
  refine pr_i2l hA dX8_isNode_1 ?_
  refine pr_lconst hA 0 dX8_isNode_2 (by decide) ?_
  refine pr_aload_n hA dX8_isNode_3 rfl ?_
  refine pr_getR hA f_X8_9 rfl (mo_k0 hm) (mo_f0_0 hm) dX8_isNode_4 ?_
  refine pr_bipush hA (nI 6) dX8_isNode_7 (by decide) ?_
  refine pr_ialdM (v := (nI (mnn σ))) hA (mo_k1 hm) (by omega) (by omega) ((rg_val (by decide)).trans (mI_nn hI)) dX8_isNode_9 ?_
  refine pr_iconst hA (1) dX8_isNode_10 (by decide) ?_
  refine pr_isub hA dX8_isNode_11 ?_
  refine pr_i2l hA dX8_isNode_12 ?_
  refine pr_callSi hA [.long ((x).toInt64), .long (0 : Int64), .long ((((nI (mnn σ)) - (1 : Int32))).toInt64)] (c_inE (m := m) (σ := σ) (v := 0) (pr_hl hA) hm (inK0 hx (by omega))) s_X8_80 rfl (by decide) (Nat.zero_le _) (Nat.zero_le _) rfl (Nat.le_of_ble_eq_true rfl) dX8_isNode_13 ?_
  exact pr_ireturn hA rfl (pr_nb (by first | decide | (split <;> simp))) (Nat.zero_le _) (Nat.zero_le _) dX8_isNode_16 ⟨rfl, rfl, rfl, rfl⟩

set_option maxRecDepth 100000 in
set_option maxHeartbeats 400000 in
theorem c_nn_ok {g : pr_C} {l : Launch} (hl : l.stackTraces = false) {T : pr_T} {I : pr_I} {L : pr_L} {m : Nat} {σ : pr_I} {s t : Nat} (hm : pr_Mo T m) (hI : mI σ) (hs : s < mnn σ) (ht : t < mnn σ) (hst : s ≠ t) : pr_M g l 5 0 0 mX8_areNoNodes [.ref m, .int (nI s), .int (nI t)] T (rg_put I m 16 σ) L (pr_R (some (.int (0 : Int32))) T (rg_put I m 16 (pr_up σ 0 6 (0 : Int32))) L) pr_no := by
  refine pr_ofG (by decide) rfl hl (Nat.le_of_ble_eq_true rfl) (fun X hA hX hXn hXt => ?_)
  subst hX
  show pr_G g X mX8_areNoNodes.2.2.1 _ 0 0 0 [.ref m, .int (nI s), .int (nI t)] [] T (rg_put I m 16 σ) L
  have hn5 := mI_n5 hI
  have hr4 := mI_nr4 hI
  have hl24 := mI_nl24 hI
  have hn12 := mI_nn12 hI
  refine pr_aload_n hA dX8_areNoNodes_0 rfl ?_
  refine pr_iconst hA (0) dX8_areNoNodes_1 (by decide) ?_
  refine pr_putE (I' := (rg_put I m 16 (pr_up σ 0 6 (0 : Int32)))) hA f_X8_60 rfl (mo_k0 hm) (rg_up0 (by decide)) dX8_areNoNodes_2 ?_
  refine pr_aload_n hA dX8_areNoNodes_5 rfl ?_
  refine pr_aload_n hA dX8_areNoNodes_6 rfl ?_
  refine pr_iload_n hA dX8_areNoNodes_7 rfl ?_
  have hv8 : mI (pr_up σ 0 6 (0 : Int32)) := (mI.upn hI rfl)
  have hq8 : mnn (pr_up σ 0 6 (0 : Int32)) = mnn σ := rfl
  refine pr_callVi hA [.int (nI s)] (c_nd_ok (m := m) (σ := (pr_up σ 0 6 (0 : Int32))) (pr_hl hA) hm hv8 (by omega)) v_X8_312 (mo_k0 hm) (by decide) rfl rfl rfl (by decide) (Nat.zero_le _) (Nat.zero_le _) rfl (Nat.le_of_ble_eq_true rfl) dX8_areNoNodes_8 ?_
  refine pr_if_eq hA 22 dX8_areNoNodes_11 (by decide) (fun c_11 => ?_) (fun c_11 => ?_)
  · exact absurd c_11 (by decide)
  · refine pr_aload_n hA dX8_areNoNodes_14 rfl ?_
    refine pr_iload_n hA dX8_areNoNodes_15 rfl ?_
    have hv16 : mI (pr_up σ 0 6 (0 : Int32)) := (mI.upn hI rfl)
    have hq16 : mnn (pr_up σ 0 6 (0 : Int32)) = mnn σ := rfl
    refine pr_callVi hA [.int (nI t)] (c_nd_ok (m := m) (σ := (pr_up σ 0 6 (0 : Int32))) (pr_hl hA) hm hv16 (by omega)) v_X8_312 (mo_k0 hm) (by decide) rfl rfl rfl (by decide) (Nat.zero_le _) (Nat.zero_le _) rfl (Nat.le_of_ble_eq_true rfl) dX8_areNoNodes_16 ?_
    refine pr_if_ne hA 26 dX8_areNoNodes_19 (by decide) (fun c_19 => ?_) (fun c_19 => ?_)
    · refine pr_iconst hA (0) dX8_areNoNodes_26 (by decide) ?_
      refine pr_iconst hA (1) dX8_areNoNodes_27 (by decide) ?_
      refine pr_callVi hA [.int (0 : Int32), .int (1 : Int32)] (c_tiE (m := m) (σ := (pr_up σ 0 6 (0 : Int32))) (pr_hl hA) hm (ti_0 pr_upe)) v_X8_301 (mo_k0 hm) (by decide) rfl rfl rfl (by decide) (Nat.zero_le _) (Nat.zero_le _) rfl (Nat.le_of_ble_eq_true rfl) dX8_areNoNodes_28 ?_
      refine pr_if_ne hA 52 dX8_areNoNodes_31 (by decide) (fun c_31 => ?_) (fun c_31 => ?_)
      · exact (c_31 (by decide)).elim
      · refine pr_aload_n hA dX8_areNoNodes_34 rfl ?_
        refine pr_iload_n hA dX8_areNoNodes_35 rfl ?_
        refine pr_iload_n hA dX8_areNoNodes_36 rfl ?_
        refine pr_icmp_ne hA 44 dX8_areNoNodes_37 (by decide) (fun c_37 => ?_) (fun c_37 => ?_)
        · have n_37 : ¬ s = t := fun q => c_37 ((nI_eq (by omega) (by omega)).mpr q)
          refine pr_iconst hA (0) dX8_areNoNodes_44 (by decide) ?_
          refine pr_iconst hA (2) dX8_areNoNodes_45 (by decide) ?_
          refine pr_callVi hA [.int (0 : Int32), .int (2 : Int32)] (c_tiE (m := m) (σ := (pr_up σ 0 6 (0 : Int32))) (pr_hl hA) hm (ti_0 pr_upe)) v_X8_301 (mo_k0 hm) (by decide) rfl rfl rfl (by decide) (Nat.zero_le _) (Nat.zero_le _) rfl (Nat.le_of_ble_eq_true rfl) dX8_areNoNodes_46 ?_
          refine pr_if_eq hA 56 dX8_areNoNodes_49 (by decide) (fun c_49 => ?_) (fun c_49 => ?_)
          · refine pr_iconst hA (0) dX8_areNoNodes_56 (by decide) ?_
            exact pr_ireturn hA rfl (pr_nb (by first | decide | (split <;> simp))) (Nat.zero_le _) (Nat.zero_le _) dX8_areNoNodes_57 ⟨rfl, rfl, rfl, rfl⟩
          · exact (c_49 (by decide)).elim
        · exact absurd ((nI_eq (by omega) (by omega)).mp (by first | exact c_37 | exact Decidable.not_not.mp c_37)) hst
    · exact absurd c_19 (by decide)

set_option maxRecDepth 100000 in
set_option maxHeartbeats 400000 in
theorem c_nn_b1 {g : pr_C} {l : Launch} (hl : l.stackTraces = false) {T : pr_T} {I : pr_I} {L : pr_L} {m : Nat} {σ : pr_I} {x y : Int32} (hm : pr_Mo T m) (hI : mI σ) (hx : ¬ vp_in x (mnn σ)) : pr_M g l 5 0 0 mX8_areNoNodes [.ref m, .int x, .int y] T (rg_put I m 16 σ) L (pr_R (some (.int (1 : Int32))) T (rg_put I m 16 (pr_up σ 0 6 (1 : Int32))) L) pr_no := by
  refine pr_ofG (by decide) rfl hl (Nat.le_of_ble_eq_true rfl) (fun X hA hX hXn hXt => ?_)
  subst hX
  show pr_G g X mX8_areNoNodes.2.2.1 _ 0 0 0 [.ref m, .int x, .int y] [] T (rg_put I m 16 σ) L
  have hn5 := mI_n5 hI
  have hr4 := mI_nr4 hI
  have hl24 := mI_nl24 hI
  have hn12 := mI_nn12 hI
  refine pr_aload_n hA dX8_areNoNodes_0 rfl ?_
  refine pr_iconst hA (0) dX8_areNoNodes_1 (by decide) ?_
  refine pr_putE (I' := (rg_put I m 16 (pr_up σ 0 6 (0 : Int32)))) hA f_X8_60 rfl (mo_k0 hm) (rg_up0 (by decide)) dX8_areNoNodes_2 ?_
  refine pr_aload_n hA dX8_areNoNodes_5 rfl ?_
  refine pr_aload_n hA dX8_areNoNodes_6 rfl ?_
  refine pr_iload_n hA dX8_areNoNodes_7 rfl ?_
  have hv8 : mI (pr_up σ 0 6 (0 : Int32)) := (mI.upn hI rfl)
  have hq8 : mnn (pr_up σ 0 6 (0 : Int32)) = mnn σ := rfl
  refine pr_callVi hA [.int x] (c_nd_bad (m := m) (σ := (pr_up σ 0 6 (0 : Int32))) (pr_hl hA) hm hv8 hx) v_X8_312 (mo_k0 hm) (by decide) rfl rfl rfl (by decide) (Nat.zero_le _) (Nat.zero_le _) rfl (Nat.le_of_ble_eq_true rfl) dX8_areNoNodes_8 ?_
  refine pr_if_eq hA 22 dX8_areNoNodes_11 (by decide) (fun c_11 => ?_) (fun c_11 => ?_)
  · refine pr_iconst hA (1) dX8_areNoNodes_22 (by decide) ?_
    refine pr_goto hA 27 dX8_areNoNodes_23 (by decide) ?_
    refine pr_iconst hA (1) dX8_areNoNodes_27 (by decide) ?_
    refine pr_callVi hA [.int (1 : Int32), .int (1 : Int32)] (c_tiE (m := m) (σ := (pr_up σ 0 6 (0 : Int32))) (pr_hl hA) hm (ti_1 pr_upe (by decide))) v_X8_301 (mo_k0 hm) (by decide) rfl rfl rfl (by decide) (Nat.zero_le _) (Nat.zero_le _) rfl (Nat.le_of_ble_eq_true rfl) dX8_areNoNodes_28 ?_
    refine pr_if_ne hA 52 dX8_areNoNodes_31 (by decide) (fun c_31 => ?_) (fun c_31 => ?_)
    · refine pr_iconst hA (1) dX8_areNoNodes_52 (by decide) ?_
      refine pr_goto hA 57 dX8_areNoNodes_53 (by decide) ?_
      exact pr_ireturn hA rfl (pr_nb (by first | decide | (split <;> simp))) (Nat.zero_le _) (Nat.zero_le _) dX8_areNoNodes_57 ⟨rfl, rfl, (by simp only [pr_up_two]), rfl⟩
    · exact absurd c_31 (by decide)
  · exact (c_11 (by decide)).elim

set_option maxRecDepth 100000 in
set_option maxHeartbeats 400000 in
theorem c_nn_b2 {g : pr_C} {l : Launch} (hl : l.stackTraces = false) {T : pr_T} {I : pr_I} {L : pr_L} {m : Nat} {σ : pr_I} {s : Nat} {y : Int32} (hm : pr_Mo T m) (hI : mI σ) (hs : s < mnn σ) (hy : ¬ vp_in y (mnn σ)) : pr_M g l 5 0 0 mX8_areNoNodes [.ref m, .int (nI s), .int y] T (rg_put I m 16 σ) L (pr_R (some (.int (1 : Int32))) T (rg_put I m 16 (pr_up σ 0 6 (1 : Int32))) L) pr_no := by
  refine pr_ofG (by decide) rfl hl (Nat.le_of_ble_eq_true rfl) (fun X hA hX hXn hXt => ?_)
  subst hX
  show pr_G g X mX8_areNoNodes.2.2.1 _ 0 0 0 [.ref m, .int (nI s), .int y] [] T (rg_put I m 16 σ) L
  have hn5 := mI_n5 hI
  have hr4 := mI_nr4 hI
  have hl24 := mI_nl24 hI
  have hn12 := mI_nn12 hI
  refine pr_aload_n hA dX8_areNoNodes_0 rfl ?_
  refine pr_iconst hA (0) dX8_areNoNodes_1 (by decide) ?_
  refine pr_putE (I' := (rg_put I m 16 (pr_up σ 0 6 (0 : Int32)))) hA f_X8_60 rfl (mo_k0 hm) (rg_up0 (by decide)) dX8_areNoNodes_2 ?_
  refine pr_aload_n hA dX8_areNoNodes_5 rfl ?_
  refine pr_aload_n hA dX8_areNoNodes_6 rfl ?_
  refine pr_iload_n hA dX8_areNoNodes_7 rfl ?_
  have hv8 : mI (pr_up σ 0 6 (0 : Int32)) := (mI.upn hI rfl)
  have hq8 : mnn (pr_up σ 0 6 (0 : Int32)) = mnn σ := rfl
  refine pr_callVi hA [.int (nI s)] (c_nd_ok (m := m) (σ := (pr_up σ 0 6 (0 : Int32))) (pr_hl hA) hm hv8 (by omega)) v_X8_312 (mo_k0 hm) (by decide) rfl rfl rfl (by decide) (Nat.zero_le _) (Nat.zero_le _) rfl (Nat.le_of_ble_eq_true rfl) dX8_areNoNodes_8 ?_
  refine pr_if_eq hA 22 dX8_areNoNodes_11 (by decide) (fun c_11 => ?_) (fun c_11 => ?_)
  · exact absurd c_11 (by decide)
  · refine pr_aload_n hA dX8_areNoNodes_14 rfl ?_
    refine pr_iload_n hA dX8_areNoNodes_15 rfl ?_
    have hv16 : mI (pr_up σ 0 6 (0 : Int32)) := (mI.upn hI rfl)
    have hq16 : mnn (pr_up σ 0 6 (0 : Int32)) = mnn σ := rfl
    refine pr_callVi hA [.int y] (c_nd_bad (m := m) (σ := (pr_up σ 0 6 (0 : Int32))) (pr_hl hA) hm hv16 hy) v_X8_312 (mo_k0 hm) (by decide) rfl rfl rfl (by decide) (Nat.zero_le _) (Nat.zero_le _) rfl (Nat.le_of_ble_eq_true rfl) dX8_areNoNodes_16 ?_
    refine pr_if_ne hA 26 dX8_areNoNodes_19 (by decide) (fun c_19 => ?_) (fun c_19 => ?_)
    · exact (c_19 (by decide)).elim
    · refine pr_iconst hA (1) dX8_areNoNodes_22 (by decide) ?_
      refine pr_goto hA 27 dX8_areNoNodes_23 (by decide) ?_
      refine pr_iconst hA (1) dX8_areNoNodes_27 (by decide) ?_
      refine pr_callVi hA [.int (1 : Int32), .int (1 : Int32)] (c_tiE (m := m) (σ := (pr_up σ 0 6 (0 : Int32))) (pr_hl hA) hm (ti_1 pr_upe (by decide))) v_X8_301 (mo_k0 hm) (by decide) rfl rfl rfl (by decide) (Nat.zero_le _) (Nat.zero_le _) rfl (Nat.le_of_ble_eq_true rfl) dX8_areNoNodes_28 ?_
      refine pr_if_ne hA 52 dX8_areNoNodes_31 (by decide) (fun c_31 => ?_) (fun c_31 => ?_)
      · refine pr_iconst hA (1) dX8_areNoNodes_52 (by decide) ?_
        refine pr_goto hA 57 dX8_areNoNodes_53 (by decide) ?_
        exact pr_ireturn hA rfl (pr_nb (by first | decide | (split <;> simp))) (Nat.zero_le _) (Nat.zero_le _) dX8_areNoNodes_57 ⟨rfl, rfl, (by simp only [pr_up_two]), rfl⟩
      · exact absurd c_31 (by decide)

set_option maxRecDepth 100000 in
set_option maxHeartbeats 400000 in
theorem c_nn_b3 {g : pr_C} {l : Launch} (hl : l.stackTraces = false) {T : pr_T} {I : pr_I} {L : pr_L} {m : Nat} {σ : pr_I} {s : Nat} (hm : pr_Mo T m) (hI : mI σ) (hs : s < mnn σ) : pr_M g l 5 0 0 mX8_areNoNodes [.ref m, .int (nI s), .int (nI s)] T (rg_put I m 16 σ) L (pr_R (some (.int (1 : Int32))) T (rg_put I m 16 (pr_up σ 0 6 (2 : Int32))) L) pr_no := by
  refine pr_ofG (by decide) rfl hl (Nat.le_of_ble_eq_true rfl) (fun X hA hX hXn hXt => ?_)
  subst hX
  show pr_G g X mX8_areNoNodes.2.2.1 _ 0 0 0 [.ref m, .int (nI s), .int (nI s)] [] T (rg_put I m 16 σ) L
  have hn5 := mI_n5 hI
  have hr4 := mI_nr4 hI
  have hl24 := mI_nl24 hI
  have hn12 := mI_nn12 hI
  refine pr_aload_n hA dX8_areNoNodes_0 rfl ?_
  refine pr_iconst hA (0) dX8_areNoNodes_1 (by decide) ?_
  refine pr_putE (I' := (rg_put I m 16 (pr_up σ 0 6 (0 : Int32)))) hA f_X8_60 rfl (mo_k0 hm) (rg_up0 (by decide)) dX8_areNoNodes_2 ?_
  refine pr_aload_n hA dX8_areNoNodes_5 rfl ?_
  refine pr_aload_n hA dX8_areNoNodes_6 rfl ?_
  refine pr_iload_n hA dX8_areNoNodes_7 rfl ?_
  have hv8 : mI (pr_up σ 0 6 (0 : Int32)) := (mI.upn hI rfl)
  have hq8 : mnn (pr_up σ 0 6 (0 : Int32)) = mnn σ := rfl
  refine pr_callVi hA [.int (nI s)] (c_nd_ok (m := m) (σ := (pr_up σ 0 6 (0 : Int32))) (pr_hl hA) hm hv8 (by omega)) v_X8_312 (mo_k0 hm) (by decide) rfl rfl rfl (by decide) (Nat.zero_le _) (Nat.zero_le _) rfl (Nat.le_of_ble_eq_true rfl) dX8_areNoNodes_8 ?_
  refine pr_if_eq hA 22 dX8_areNoNodes_11 (by decide) (fun c_11 => ?_) (fun c_11 => ?_)
  · exact absurd c_11 (by decide)
  · refine pr_aload_n hA dX8_areNoNodes_14 rfl ?_
    refine pr_iload_n hA dX8_areNoNodes_15 rfl ?_
    have hv16 : mI (pr_up σ 0 6 (0 : Int32)) := (mI.upn hI rfl)
    have hq16 : mnn (pr_up σ 0 6 (0 : Int32)) = mnn σ := rfl
    refine pr_callVi hA [.int (nI s)] (c_nd_ok (m := m) (σ := (pr_up σ 0 6 (0 : Int32))) (pr_hl hA) hm hv16 (by omega)) v_X8_312 (mo_k0 hm) (by decide) rfl rfl rfl (by decide) (Nat.zero_le _) (Nat.zero_le _) rfl (Nat.le_of_ble_eq_true rfl) dX8_areNoNodes_16 ?_
    refine pr_if_ne hA 26 dX8_areNoNodes_19 (by decide) (fun c_19 => ?_) (fun c_19 => ?_)
    · refine pr_iconst hA (0) dX8_areNoNodes_26 (by decide) ?_
      refine pr_iconst hA (1) dX8_areNoNodes_27 (by decide) ?_
      refine pr_callVi hA [.int (0 : Int32), .int (1 : Int32)] (c_tiE (m := m) (σ := (pr_up σ 0 6 (0 : Int32))) (pr_hl hA) hm (ti_0 pr_upe)) v_X8_301 (mo_k0 hm) (by decide) rfl rfl rfl (by decide) (Nat.zero_le _) (Nat.zero_le _) rfl (Nat.le_of_ble_eq_true rfl) dX8_areNoNodes_28 ?_
      refine pr_if_ne hA 52 dX8_areNoNodes_31 (by decide) (fun c_31 => ?_) (fun c_31 => ?_)
      · exact (c_31 (by decide)).elim
      · refine pr_aload_n hA dX8_areNoNodes_34 rfl ?_
        refine pr_iload_n hA dX8_areNoNodes_35 rfl ?_
        refine pr_iload_n hA dX8_areNoNodes_36 rfl ?_
        refine pr_icmp_ne hA 44 dX8_areNoNodes_37 (by decide) (fun c_37 => ?_) (fun c_37 => ?_)
        · exact absurd rfl c_37
        · have n_37 : s = s := (nI_eq (by omega) (by omega)).mp c_37
          refine pr_iconst hA (1) dX8_areNoNodes_40 (by decide) ?_
          refine pr_goto hA 45 dX8_areNoNodes_41 (by decide) ?_
          refine pr_iconst hA (2) dX8_areNoNodes_45 (by decide) ?_
          refine pr_callVi hA [.int (1 : Int32), .int (2 : Int32)] (c_tiE (m := m) (σ := (pr_up σ 0 6 (0 : Int32))) (pr_hl hA) hm (ti_1 pr_upe (by decide))) v_X8_301 (mo_k0 hm) (by decide) rfl rfl rfl (by decide) (Nat.zero_le _) (Nat.zero_le _) rfl (Nat.le_of_ble_eq_true rfl) dX8_areNoNodes_46 ?_
          refine pr_if_eq hA 56 dX8_areNoNodes_49 (by decide) (fun c_49 => ?_) (fun c_49 => ?_)
          · exact absurd c_49 (by decide)
          · refine pr_iconst hA (1) dX8_areNoNodes_52 (by decide) ?_
            refine pr_goto hA 57 dX8_areNoNodes_53 (by decide) ?_
            exact pr_ireturn hA rfl (pr_nb (by first | decide | (split <;> simp))) (Nat.zero_le _) (Nat.zero_le _) dX8_areNoNodes_57 ⟨rfl, rfl, (by simp only [pr_up_two]), rfl⟩
    · exact absurd c_19 (by decide)

theorem c_nn_bad {g : pr_C} {l : Launch} (hl : l.stackTraces = false) {T : pr_T} {I : pr_I} {L : pr_L} {m : Nat} {σ : pr_I} {x y : Int32} (hm : pr_Mo T m) (hI : mI σ) (h : ¬ vp_in x (mnn σ) ∨ ¬ vp_in y (mnn σ)) : pr_M g l 5 0 0 mX8_areNoNodes [.ref m, .int x, .int y] T (rg_put I m 16 σ) L (pr_R (some (.int (1 : Int32))) T (rg_put I m 16 (pr_up σ 0 6 (1 : Int32))) L) pr_no := by
  have hn12 := mI_nn12 hI
  by_cases c : vp_in x (mnn σ)
  · obtain ⟨j, hj, rfl⟩ := vp_in_of c (by omega)
    exact c_nn_b2 hl hm hI hj (h.resolve_left (fun q => q c))
  · exact c_nn_b1 hl hm hI c
theorem c_nn_eq {g : pr_C} {l : Launch} (hl : l.stackTraces = false) {T : pr_T} {I : pr_I} {L : pr_L} {m : Nat} {σ : pr_I} {x y : Int32} (hm : pr_Mo T m) (hI : mI σ) (hx : vp_in x (mnn σ)) (h : x = y) : pr_M g l 5 0 0 mX8_areNoNodes [.ref m, .int x, .int y] T (rg_put I m 16 σ) L (pr_R (some (.int (1 : Int32))) T (rg_put I m 16 (pr_up σ 0 6 (2 : Int32))) L) pr_no := by
  have hn12 := mI_nn12 hI
  subst h
  obtain ⟨j, hj, rfl⟩ := vp_in_of hx (by omega)
  exact c_nn_b3 hl hm hI hj
set_option maxRecDepth 100000 in
set_option maxHeartbeats 400000 in
theorem c_ne_ok {g : pr_C} {l : Launch} (hl : l.stackTraces = false) {T : pr_T} {I : pr_I} {L : pr_L} {m : Nat} {σ : pr_I} {s t : Nat} (hm : pr_Mo T m) (hI : mI σ) (hs : s < mnn σ) (ht : t < mnn σ) (hst : s ≠ t) {u : Int32} (hu1 : 0 ≤ u) (hu2 : u ≤ 1000) : pr_M g l 6 0 0 mX8_areNoEnds [.ref m, .int (nI s), .int (nI t), .int u] T (rg_put I m 16 σ) L (pr_R (some (.int (0 : Int32))) T (rg_put I m 16 (pr_up σ 0 6 (0 : Int32))) L) pr_no := by
  refine pr_ofG (by decide) rfl hl (Nat.le_of_ble_eq_true rfl) (fun X hA hX hXn hXt => ?_)
  subst hX
  show pr_G g X mX8_areNoEnds.2.2.1 _ 0 0 0 [.ref m, .int (nI s), .int (nI t), .int u] [] T (rg_put I m 16 σ) L
  have hn5 := mI_n5 hI
  have hr4 := mI_nr4 hI
  have hl24 := mI_nl24 hI
  have hn12 := mI_nn12 hI
  refine pr_aload_n hA dX8_areNoEnds_0 rfl ?_
  refine pr_iload_n hA dX8_areNoEnds_1 rfl ?_
  refine pr_iload_n hA dX8_areNoEnds_2 rfl ?_
  have hv3 : mI σ := hI
  refine pr_callVi hA [.int (nI s), .int (nI t)] (c_nn_ok (m := m) (σ := σ) (pr_hl hA) hm hv3 (by omega) (by omega) (by omega)) v_X8_337 (mo_k0 hm) (by decide) rfl rfl rfl (by decide) (Nat.zero_le _) (Nat.zero_le _) rfl (Nat.le_of_ble_eq_true rfl) dX8_areNoEnds_3 ?_
  refine pr_if_ne hA 34 dX8_areNoEnds_6 (by decide) (fun c_6 => ?_) (fun c_6 => ?_)
  · exact (c_6 (by decide)).elim
  · refine pr_aload_n hA dX8_areNoEnds_9 rfl ?_
    refine pr_iload_n hA dX8_areNoEnds_10 rfl ?_
    refine pr_i2l hA dX8_areNoEnds_11 ?_
    refine pr_lconst hA 0 dX8_areNoEnds_12 (by decide) ?_
    refine pr_ldc2 hA kK_X8_299 dX8_areNoEnds_13 ?_
    refine pr_callSi hA [.long ((u).toInt64), .long (0 : Int64), .long (1000 : Int64)] (c_inE (m := m) (σ := (pr_up σ 0 6 (0 : Int32))) (v := 1) (pr_hl hA) hm (in_z1 hu1 hu2 (by decide) (by decide))) s_X8_80 rfl (by decide) (Nat.zero_le _) (Nat.zero_le _) rfl (Nat.le_of_ble_eq_true rfl) dX8_areNoEnds_16 ?_
    refine pr_if_ne hA 26 dX8_areNoEnds_19 (by decide) (fun c_19 => ?_) (fun c_19 => ?_)
    · refine pr_iconst hA (0) dX8_areNoEnds_26 (by decide) ?_
      refine pr_iconst hA (2) dX8_areNoEnds_27 (by decide) ?_
      refine pr_callVi hA [.int (0 : Int32), .int (2 : Int32)] (c_tiE (m := m) (σ := (pr_up σ 0 6 (0 : Int32))) (pr_hl hA) hm (ti_0 pr_upe)) v_X8_301 (mo_k0 hm) (by decide) rfl rfl rfl (by decide) (Nat.zero_le _) (Nat.zero_le _) rfl (Nat.le_of_ble_eq_true rfl) dX8_areNoEnds_28 ?_
      refine pr_if_eq hA 38 dX8_areNoEnds_31 (by decide) (fun c_31 => ?_) (fun c_31 => ?_)
      · refine pr_iconst hA (0) dX8_areNoEnds_38 (by decide) ?_
        exact pr_ireturn hA rfl (pr_nb (by first | decide | (split <;> simp))) (Nat.zero_le _) (Nat.zero_le _) dX8_areNoEnds_39 ⟨rfl, rfl, rfl, rfl⟩
      · exact (c_31 (by decide)).elim
    · exact absurd c_19 (by decide)

set_option maxRecDepth 100000 in
set_option maxHeartbeats 400000 in
theorem c_ne_bad {g : pr_C} {l : Launch} (hl : l.stackTraces = false) {T : pr_T} {I : pr_I} {L : pr_L} {m : Nat} {σ : pr_I} {x y u : Int32} (hm : pr_Mo T m) (hI : mI σ) (h : ¬ vp_in x (mnn σ) ∨ ¬ vp_in y (mnn σ)) : pr_M g l 6 0 0 mX8_areNoEnds [.ref m, .int x, .int y, .int u] T (rg_put I m 16 σ) L (pr_R (some (.int (1 : Int32))) T (rg_put I m 16 (pr_up σ 0 6 (1 : Int32))) L) pr_no := by
  refine pr_ofG (by decide) rfl hl (Nat.le_of_ble_eq_true rfl) (fun X hA hX hXn hXt => ?_)
  subst hX
  show pr_G g X mX8_areNoEnds.2.2.1 _ 0 0 0 [.ref m, .int x, .int y, .int u] [] T (rg_put I m 16 σ) L
  have hn5 := mI_n5 hI
  have hr4 := mI_nr4 hI
  have hl24 := mI_nl24 hI
  have hn12 := mI_nn12 hI
  refine pr_aload_n hA dX8_areNoEnds_0 rfl ?_
  refine pr_iload_n hA dX8_areNoEnds_1 rfl ?_
  refine pr_iload_n hA dX8_areNoEnds_2 rfl ?_
  have hv3 : mI σ := hI
  refine pr_callVi hA [.int x, .int y] (c_nn_bad (m := m) (σ := σ) (pr_hl hA) hm hv3 h) v_X8_337 (mo_k0 hm) (by decide) rfl rfl rfl (by decide) (Nat.zero_le _) (Nat.zero_le _) rfl (Nat.le_of_ble_eq_true rfl) dX8_areNoEnds_3 ?_
  refine pr_if_ne hA 34 dX8_areNoEnds_6 (by decide) (fun c_6 => ?_) (fun c_6 => ?_)
  · refine pr_iconst hA (1) dX8_areNoEnds_34 (by decide) ?_
    refine pr_goto hA 39 dX8_areNoEnds_35 (by decide) ?_
    exact pr_ireturn hA rfl (pr_nb (by first | decide | (split <;> simp))) (Nat.zero_le _) (Nat.zero_le _) dX8_areNoEnds_39 ⟨rfl, rfl, (by simp only [pr_up_two]), rfl⟩
  · exact absurd c_6 (by decide)

set_option maxRecDepth 100000 in
set_option maxHeartbeats 400000 in
theorem c_ne_eq {g : pr_C} {l : Launch} (hl : l.stackTraces = false) {T : pr_T} {I : pr_I} {L : pr_L} {m : Nat} {σ : pr_I} {x y u : Int32} (hm : pr_Mo T m) (hI : mI σ) (hx : vp_in x (mnn σ)) (h : x = y) : pr_M g l 6 0 0 mX8_areNoEnds [.ref m, .int x, .int y, .int u] T (rg_put I m 16 σ) L (pr_R (some (.int (1 : Int32))) T (rg_put I m 16 (pr_up σ 0 6 (2 : Int32))) L) pr_no := by
  refine pr_ofG (by decide) rfl hl (Nat.le_of_ble_eq_true rfl) (fun X hA hX hXn hXt => ?_)
  subst hX
  show pr_G g X mX8_areNoEnds.2.2.1 _ 0 0 0 [.ref m, .int x, .int y, .int u] [] T (rg_put I m 16 σ) L
  have hn5 := mI_n5 hI
  have hr4 := mI_nr4 hI
  have hl24 := mI_nl24 hI
  have hn12 := mI_nn12 hI
  refine pr_aload_n hA dX8_areNoEnds_0 rfl ?_
  refine pr_iload_n hA dX8_areNoEnds_1 rfl ?_
  refine pr_iload_n hA dX8_areNoEnds_2 rfl ?_
  have hv3 : mI σ := hI
  refine pr_callVi hA [.int x, .int y] (c_nn_eq (m := m) (σ := σ) (pr_hl hA) hm hv3 hx h) v_X8_337 (mo_k0 hm) (by decide) rfl rfl rfl (by decide) (Nat.zero_le _) (Nat.zero_le _) rfl (Nat.le_of_ble_eq_true rfl) dX8_areNoEnds_3 ?_
  refine pr_if_ne hA 34 dX8_areNoEnds_6 (by decide) (fun c_6 => ?_) (fun c_6 => ?_)
  · refine pr_iconst hA (1) dX8_areNoEnds_34 (by decide) ?_
    refine pr_goto hA 39 dX8_areNoEnds_35 (by decide) ?_
    exact pr_ireturn hA rfl (pr_nb (by first | decide | (split <;> simp))) (Nat.zero_le _) (Nat.zero_le _) dX8_areNoEnds_39 ⟨rfl, rfl, (by simp only [pr_up_two]), rfl⟩
  · exact absurd c_6 (by decide)

set_option maxRecDepth 100000 in
set_option maxHeartbeats 400000 in
theorem c_ne_u {g : pr_C} {l : Launch} (hl : l.stackTraces = false) {T : pr_T} {I : pr_I} {L : pr_L} {m : Nat} {σ : pr_I} {s t : Nat} (hm : pr_Mo T m) (hI : mI σ) (hs : s < mnn σ) (ht : t < mnn σ) (hst : s ≠ t) {u : Int32} (hu : u < 0 ∨ 1000 < u) : pr_M g l 6 0 0 mX8_areNoEnds [.ref m, .int (nI s), .int (nI t), .int u] T (rg_put I m 16 σ) L (pr_R (some (.int (1 : Int32))) T (rg_put I m 16 (pr_up σ 0 6 (2 : Int32))) L) pr_no := by
  refine pr_ofG (by decide) rfl hl (Nat.le_of_ble_eq_true rfl) (fun X hA hX hXn hXt => ?_)
  subst hX
  show pr_G g X mX8_areNoEnds.2.2.1 _ 0 0 0 [.ref m, .int (nI s), .int (nI t), .int u] [] T (rg_put I m 16 σ) L
  have hn5 := mI_n5 hI
  have hr4 := mI_nr4 hI
  have hl24 := mI_nl24 hI
  have hn12 := mI_nn12 hI
  refine pr_aload_n hA dX8_areNoEnds_0 rfl ?_
  refine pr_iload_n hA dX8_areNoEnds_1 rfl ?_
  refine pr_iload_n hA dX8_areNoEnds_2 rfl ?_
  have hv3 : mI σ := hI
  refine pr_callVi hA [.int (nI s), .int (nI t)] (c_nn_ok (m := m) (σ := σ) (pr_hl hA) hm hv3 (by omega) (by omega) (by omega)) v_X8_337 (mo_k0 hm) (by decide) rfl rfl rfl (by decide) (Nat.zero_le _) (Nat.zero_le _) rfl (Nat.le_of_ble_eq_true rfl) dX8_areNoEnds_3 ?_
  refine pr_if_ne hA 34 dX8_areNoEnds_6 (by decide) (fun c_6 => ?_) (fun c_6 => ?_)
  · exact (c_6 (by decide)).elim
  · refine pr_aload_n hA dX8_areNoEnds_9 rfl ?_
    refine pr_iload_n hA dX8_areNoEnds_10 rfl ?_
    refine pr_i2l hA dX8_areNoEnds_11 ?_
    refine pr_lconst hA 0 dX8_areNoEnds_12 (by decide) ?_
    refine pr_ldc2 hA kK_X8_299 dX8_areNoEnds_13 ?_
    refine pr_callSi hA [.long ((u).toInt64), .long (0 : Int64), .long (1000 : Int64)] (c_inE (m := m) (σ := (pr_up σ 0 6 (0 : Int32))) (v := 0) (pr_hl hA) hm (in_z0 hu (by decide) (by decide))) s_X8_80 rfl (by decide) (Nat.zero_le _) (Nat.zero_le _) rfl (Nat.le_of_ble_eq_true rfl) dX8_areNoEnds_16 ?_
    refine pr_if_ne hA 26 dX8_areNoEnds_19 (by decide) (fun c_19 => ?_) (fun c_19 => ?_)
    · exact (c_19 (by decide)).elim
    · refine pr_iconst hA (1) dX8_areNoEnds_22 (by decide) ?_
      refine pr_goto hA 27 dX8_areNoEnds_23 (by decide) ?_
      refine pr_iconst hA (2) dX8_areNoEnds_27 (by decide) ?_
      refine pr_callVi hA [.int (1 : Int32), .int (2 : Int32)] (c_tiE (m := m) (σ := (pr_up σ 0 6 (0 : Int32))) (pr_hl hA) hm (ti_1 pr_upe (by decide))) v_X8_301 (mo_k0 hm) (by decide) rfl rfl rfl (by decide) (Nat.zero_le _) (Nat.zero_le _) rfl (Nat.le_of_ble_eq_true rfl) dX8_areNoEnds_28 ?_
      refine pr_if_eq hA 38 dX8_areNoEnds_31 (by decide) (fun c_31 => ?_) (fun c_31 => ?_)
      · exact absurd c_31 (by decide)
      · refine pr_iconst hA (1) dX8_areNoEnds_34 (by decide) ?_
        refine pr_goto hA 39 dX8_areNoEnds_35 (by decide) ?_
        exact pr_ireturn hA rfl (pr_nb (by first | decide | (split <;> simp))) (Nat.zero_le _) (Nat.zero_le _) dX8_areNoEnds_39 ⟨rfl, rfl, (by simp only [pr_up_two]), rfl⟩

