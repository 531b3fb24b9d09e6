/-! A CALL ON BOTH SIDES, part 4 -/
theorem S_ticksUntilActive {g : pr_C} {l : Launch} (hl : l.stackTraces = false) {x : Nat} {T : pr_T} {I : pr_I} {L : pr_L} {p1 : Int32} (h : LI x T I L) : LwB g l x mL_ticksUntilActive mX8_ticksUntilActive [.ref x, .int p1, .ref (x + 267)] [.ref (x + 251), .int p1] Pint T I L := by
  obtain ⟨σ, τ, φ, ι, μ, n, hS, hM, hD, hSn⟩ := h
  have X := hD.1
  have w := X.1.1.cr.w
  have mm := X.1.1.cr.m
  have hx := hS.1
  have x7 := hS.1.1
  have hw := hS.2.1
  have hv := hS.2.2.1
  have hf := hS.2.2.2.2.1
  have mo := hS.2.2.2.2.2.2.1
  have ho := hS.2.2.2.2.2.2.2.1
  by_cases c1 : vp_in p1 (mrn μ)
  · have i1 : ¬ (p1 < 0 ∨ ¬ p1 < σ 18 17) := fun q => (idx_req X).mp q c1
    have a1 : ¬ p1 < 0 := fun z => i1 (Or.inl z)
    have b1 : p1 < σ 18 17 := Decidable.byContradiction (fun z => i1 (Or.inr z))
    obtain ⟨k1, hk1, rfl⟩ := idx_k c1 (bnr X)
    have hk1' : k1 < rqn σ := by rw [← cnr X]; exact hk1
    obtain ⟨e1, e2, e3, e4⟩ := eq_ticksUntilActive X hD.2.2.2.1 hk1'
    exact LwB.okv hS hM hD hSn (by decide) (by decide) (k_ticksUntilActive hl (c_fx_ticksUntilActive hl hv hx hw (Or.inr (by omega)) hD.2.2.2.1 w hk1') x7 ho) (fun L1 => c_mf_ticksUntilActive hl mo mm hk1 e2) ⟨_, rfl, fun _ => congrArg Int32.toInt64 e1⟩ z6_mf_ticksUntilActive e3 kp_ticksUntilActive e4
  · exact LwB.th hS hM hD hSn (by decide) (by decide) (by decide) ⟨_, rfl, fun z => absurd z (by decide)⟩ (k_ticksUntilActive_i hl (t_ticksUntilActive_0 hl hw hx ((idx_req X).mpr c1)) x7) (fun T' hT => r_ticksUntilActive_0 hl hT mm c1)

theorem S_revenueAfter {g : pr_C} {l : Launch} (hl : l.stackTraces = false) {x : Nat} {T : pr_T} {I : pr_I} {L : pr_L} {p1 : Int32} (h : LI x T I L) : LwB g l x mL_revenueAfter mX8_revenueAfter [.ref x, .int p1, .ref (x + 267)] [.ref (x + 251), .int p1] Plong T I L := by
  obtain ⟨σ, τ, φ, ι, μ, n, hS, hM, hD, hSn⟩ := h
  have X := hD.1
  have w := X.1.1.cr.w
  have mm := X.1.1.cr.m
  have hx := hS.1
  have x7 := hS.1.1
  have hw := hS.2.1
  have hv := hS.2.2.1
  have hf := hS.2.2.2.2.1
  have mo := hS.2.2.2.2.2.2.1
  have ho := hS.2.2.2.2.2.2.2.1
  by_cases c1 : (0 : Int32) ≤ p1 ∧ p1 ≤ (2000 : Int32)
  · have z1 : (0 : Int) ≤ p1.toInt ∧ p1.toInt ≤ (2000 : Int) := ⟨le_i.mp c1.1, le_i.mp c1.2⟩
    obtain ⟨e1, e2, e3, e4⟩ := eq_revenueAfter X hD.2.2.2.1 z1.1 z1.2
    exact LwB.okv hS hM hD hSn (by decide) (by decide) (k_revenueAfter hl (c_fx_revenueAfter hl hv hx hw (Or.inr (by omega)) hD.2.2.2.1 w c1.1 c1.2) x7 ho) (fun L1 => c_mf_revenueAfter hl mo mm c1.1 c1.2 e2) ⟨_, rfl, fun _ => e1⟩ z6_mf_revenueAfter e3 kp_revenueAfter e4
  · exact LwB.th hS hM hD hSn (by decide) (by decide) (by decide) ⟨_, rfl, fun z => absurd z (by decide)⟩ (k_revenueAfter_a hl (t_revenueAfter_0 hl hw hx (rng_bad c1).1) x7) (fun T' hT => r_revenueAfter_0 hl hT mm (rng_bad c1).2)

theorem S_availableAfter {g : pr_C} {l : Launch} (hl : l.stackTraces = false) {x : Nat} {T : pr_T} {I : pr_I} {L : pr_L} {p1 p2 : Int32} (h : LI x T I L) : LwB g l x mL_availableAfter mX8_availableAfter [.ref x, .int p1, .int p2, .ref (x + 267)] [.ref (x + 251), .int p1, .int p2] Pint T I L := by
  obtain ⟨σ, τ, φ, ι, μ, n, hS, hM, hD, hSn⟩ := h
  have X := hD.1
  have w := X.1.1.cr.w
  have mm := X.1.1.cr.m
  have hx := hS.1
  have x7 := hS.1.1
  have hw := hS.2.1
  have hv := hS.2.2.1
  have hf := hS.2.2.2.2.1
  have mo := hS.2.2.2.2.2.2.1
  have ho := hS.2.2.2.2.2.2.2.1
  by_cases c1 : vp_in p1 (mln μ)
  · have i1 : ¬ (p1 < 0 ∨ ¬ p1 < σ 1 8) := fun q => (idx_link X).mp q c1
    have a1 : ¬ p1 < 0 := fun z => i1 (Or.inl z)
    have b1 : p1 < σ 1 8 := Decidable.byContradiction (fun z => i1 (Or.inr z))
    obtain ⟨k1, hk1, rfl⟩ := idx_k c1 (bnl X)
    have hk1' : k1 < lkn σ := by rw [← cnl X]; exact hk1
    by_cases c2 : (0 : Int32) ≤ p2 ∧ p2 ≤ (2000 : Int32)
    · have z2 : (0 : Int) ≤ p2.toInt ∧ p2.toInt ≤ (2000 : Int) := ⟨le_i.mp c2.1, le_i.mp c2.2⟩
      obtain ⟨e1, e2, e3, e4⟩ := eq_availableAfter X hD.2.2.2.1 hk1' z2.1 z2.2
      exact LwB.okv hS hM hD hSn (by decide) (by decide) (k_availableAfter hl (c_fx_availableAfter hl hv hx hw (Or.inr (by omega)) hD.2.2.2.1 w hk1' c2.1 c2.2) x7 ho) (fun L1 => c_mf_availableAfter hl mo mm hk1 c2.1 c2.2 e2) ⟨_, rfl, fun _ => congrArg Int32.toInt64 e1⟩ z6_mf_availableAfter e3 kp_availableAfter e4
    · exact LwB.th hS hM hD hSn (by decide) (by decide) (by decide) ⟨_, rfl, fun z => absurd z (by decide)⟩ (k_availableAfter_a hl (t_availableAfter_1 hl hw hx a1 b1 (rng_bad c2).1) x7) (fun T' hT => r_availableAfter_1 hl hT mm hk1 (rng_bad c2).2)
  · exact LwB.th hS hM hD hSn (by decide) (by decide) (by decide) ⟨_, rfl, fun z => absurd z (by decide)⟩ (k_availableAfter_i hl (t_availableAfter_0 hl hw hx ((idx_link X).mpr c1)) x7) (fun T' hT => r_availableAfter_0 hl hT mm c1)

theorem S_stateAfter {g : pr_C} {l : Launch} (hl : l.stackTraces = false) {x : Nat} {T : pr_T} {I : pr_I} {L : pr_L} {p1 p2 : Int32} (h : LI x T I L) : LwB g l x mL_stateAfter mX8_stateAfter [.ref x, .int p1, .int p2, .ref (x + 267)] [.ref (x + 251), .int p1, .int p2] Pint T I L := by
  obtain ⟨σ, τ, φ, ι, μ, n, hS, hM, hD, hSn⟩ := h
  have X := hD.1
  have w := X.1.1.cr.w
  have mm := X.1.1.cr.m
  have hx := hS.1
  have x7 := hS.1.1
  have hw := hS.2.1
  have hv := hS.2.2.1
  have hf := hS.2.2.2.2.1
  have mo := hS.2.2.2.2.2.2.1
  have ho := hS.2.2.2.2.2.2.2.1
  by_cases c1 : vp_in p1 (mrn μ)
  · have i1 : ¬ (p1 < 0 ∨ ¬ p1 < σ 18 17) := fun q => (idx_req X).mp q c1
    have a1 : ¬ p1 < 0 := fun z => i1 (Or.inl z)
    have b1 : p1 < σ 18 17 := Decidable.byContradiction (fun z => i1 (Or.inr z))
    obtain ⟨k1, hk1, rfl⟩ := idx_k c1 (bnr X)
    have hk1' : k1 < rqn σ := by rw [← cnr X]; exact hk1
    by_cases c2 : (0 : Int32) ≤ p2 ∧ p2 ≤ (2000 : Int32)
    · have z2 : (0 : Int) ≤ p2.toInt ∧ p2.toInt ≤ (2000 : Int) := ⟨le_i.mp c2.1, le_i.mp c2.2⟩
      obtain ⟨e1, e2, e3, e4⟩ := eq_stateAfter X hD.2.2.2.1 hk1' z2.1 z2.2
      exact LwB.okv hS hM hD hSn (by decide) (by decide) (k_stateAfter hl (c_fx_stateAfter hl hv hx hw (Or.inr (by omega)) hD.2.2.2.1 w hk1' c2.1 c2.2) x7 ho) (fun L1 => c_mf_stateAfter hl mo mm hk1 c2.1 c2.2 e2) ⟨_, rfl, fun _ => congrArg Int32.toInt64 e1⟩ z6_mf_stateAfter e3 kp_stateAfter e4
    · exact LwB.th hS hM hD hSn (by decide) (by decide) (by decide) ⟨_, rfl, fun z => absurd z (by decide)⟩ (k_stateAfter_a hl (t_stateAfter_1 hl hw hx a1 b1 (rng_bad c2).1) x7) (fun T' hT => r_stateAfter_1 hl hT mm hk1 (rng_bad c2).2)
  · exact LwB.th hS hM hD hSn (by decide) (by decide) (by decide) ⟨_, rfl, fun z => absurd z (by decide)⟩ (k_stateAfter_i hl (t_stateAfter_0 hl hw hx ((idx_req X).mpr c1)) x7) (fun T' hT => r_stateAfter_0 hl hT mm c1)

theorem S_activeWithout {g : pr_C} {l : Launch} (hl : l.stackTraces = false) {x : Nat} {T : pr_T} {I : pr_I} {L : pr_L} {p1 p2 : Int32} (h : LI x T I L) : LwB g l x mL_activeWithout mX8_activeWithout [.ref x, .int p1, .int p2, .ref (x + 267)] [.ref (x + 251), .int p1, .int p2] Pint T I L := by
  obtain ⟨σ, τ, φ, ι, μ, n, hS, hM, hD, hSn⟩ := h
  have X := hD.1
  have w := X.1.1.cr.w
  have mm := X.1.1.cr.m
  have hx := hS.1
  have x7 := hS.1.1
  have hw := hS.2.1
  have hv := hS.2.2.1
  have hf := hS.2.2.2.2.1
  have mo := hS.2.2.2.2.2.2.1
  have ho := hS.2.2.2.2.2.2.2.1
  by_cases c1 : vp_in p1 (mln μ)
  · have i1 : ¬ (p1 < 0 ∨ ¬ p1 < σ 1 8) := fun q => (idx_link X).mp q c1
    have a1 : ¬ p1 < 0 := fun z => i1 (Or.inl z)
    have b1 : p1 < σ 1 8 := Decidable.byContradiction (fun z => i1 (Or.inr z))
    obtain ⟨k1, hk1, rfl⟩ := idx_k c1 (bnl X)
    have hk1' : k1 < lkn σ := by rw [← cnl X]; exact hk1
    by_cases c2 : (0 : Int32) ≤ p2 ∧ p2 ≤ (2000 : Int32)
    · have z2 : (0 : Int) ≤ p2.toInt ∧ p2.toInt ≤ (2000 : Int) := ⟨le_i.mp c2.1, le_i.mp c2.2⟩
      obtain ⟨e1, e2, e3, e4⟩ := eq_activeWithout X hD.2.2.2.1 hk1' z2.1 z2.2
      exact LwB.okv hS hM hD hSn (by decide) (by decide) (k_activeWithout hl (c_fx_activeWithout hl hv hx hw (Or.inr (by omega)) hD.2.2.2.1 w hk1' c2.1 c2.2) x7 ho) (fun L1 => c_mf_activeWithout hl mo mm hk1 c2.1 c2.2 e2) ⟨_, rfl, fun _ => congrArg Int32.toInt64 e1⟩ z6_mf_activeWithout e3 kp_activeWithout e4
    · exact LwB.th hS hM hD hSn (by decide) (by decide) (by decide) ⟨_, rfl, fun z => absurd z (by decide)⟩ (k_activeWithout_a hl (t_activeWithout_1 hl hw hx a1 b1 (rng_bad c2).1) x7) (fun T' hT => r_activeWithout_1 hl hT mm hk1 (rng_bad c2).2)
  · exact LwB.th hS hM hD hSn (by decide) (by decide) (by decide) ⟨_, rfl, fun z => absurd z (by decide)⟩ (k_activeWithout_i hl (t_activeWithout_0 hl hw hx ((idx_link X).mpr c1)) x7) (fun T' hT => r_activeWithout_0 hl hT mm c1)

theorem S_ticksUntilAvailable {g : pr_C} {l : Launch} (hl : l.stackTraces = false) {x : Nat} {T : pr_T} {I : pr_I} {L : pr_L} {p1 p2 : Int32} (h : LI x T I L) : LwB g l x mL_ticksUntilAvailable mX8_ticksUntilAvailable [.ref x, .int p1, .int p2, .ref (x + 267)] [.ref (x + 251), .int p1, .int p2] Pint T I L := by
  obtain ⟨σ, τ, φ, ι, μ, n, hS, hM, hD, hSn⟩ := h
  have X := hD.1
  have w := X.1.1.cr.w
  have mm := X.1.1.cr.m
  have hx := hS.1
  have x7 := hS.1.1
  have hw := hS.2.1
  have hv := hS.2.2.1
  have hf := hS.2.2.2.2.1
  have mo := hS.2.2.2.2.2.2.1
  have ho := hS.2.2.2.2.2.2.2.1
  by_cases c1 : vp_in p1 (mln μ)
  · have i1 : ¬ (p1 < 0 ∨ ¬ p1 < σ 1 8) := fun q => (idx_link X).mp q c1
    have a1 : ¬ p1 < 0 := fun z => i1 (Or.inl z)
    have b1 : p1 < σ 1 8 := Decidable.byContradiction (fun z => i1 (Or.inr z))
    obtain ⟨k1, hk1, rfl⟩ := idx_k c1 (bnl X)
    have hk1' : k1 < lkn σ := by rw [← cnl X]; exact hk1
    by_cases c2 : (0 : Int32) ≤ p2 ∧ p2 ≤ (1000 : Int32)
    · have z2 : (0 : Int) ≤ p2.toInt ∧ p2.toInt ≤ (1000 : Int) := ⟨le_i.mp c2.1, le_i.mp c2.2⟩
      obtain ⟨e1, e2, e3, e4⟩ := eq_ticksUntilAvailable X hD.2.2.2.1 (u := p2) hk1'
      exact LwB.okv hS hM hD hSn (by decide) (by decide) (k_ticksUntilAvailable hl (c_fx_ticksUntilAvailable hl hv hx hw (Or.inr (by omega)) hD.2.2.2.1 w hk1' c2.1 c2.2) x7 ho) (fun L1 => c_mf_ticksUntilAvailable hl mo mm hk1 c2.1 c2.2 e2) ⟨_, rfl, fun _ => congrArg Int32.toInt64 e1⟩ z6_mf_ticksUntilAvailable e3 (kp_ticksUntilAvailable e2) e4
    · exact LwB.th hS hM hD hSn (by decide) (by decide) (by decide) ⟨_, rfl, fun z => absurd z (by decide)⟩ (k_ticksUntilAvailable_a hl (t_ticksUntilAvailable_1 hl hw hx a1 b1 (rng_bad c2).1) x7) (fun T' hT => r_ticksUntilAvailable_1 hl hT mm hk1 (rng_bad c2).2)
  · exact LwB.th hS hM hD hSn (by decide) (by decide) (by decide) ⟨_, rfl, fun z => absurd z (by decide)⟩ (k_ticksUntilAvailable_i hl (t_ticksUntilAvailable_0 hl hw hx ((idx_link X).mpr c1)) x7) (fun T' hT => r_ticksUntilAvailable_0 hl hT mm c1)

theorem S_ticksForNew {g : pr_C} {l : Launch} (hl : l.stackTraces = false) {x : Nat} {T : pr_T} {I : pr_I} {L : pr_L} {p1 p2 p3 : Int32} (h : LI x T I L) : LwB g l x mL_ticksForNew mX8_ticksForNew [.ref x, .int p1, .int p2, .int p3, .ref (x + 267)] [.ref (x + 251), .int p1, .int p2, .int p3] Pint T I L := by
  obtain ⟨σ, τ, φ, ι, μ, n, hS, hM, hD, hSn⟩ := h
  have X := hD.1
  have w := X.1.1.cr.w
  have mm := X.1.1.cr.m
  have hx := hS.1
  have x7 := hS.1.1
  have hw := hS.2.1
  have hv := hS.2.2.1
  have hf := hS.2.2.2.2.1
  have mo := hS.2.2.2.2.2.2.1
  have ho := hS.2.2.2.2.2.2.2.1
  by_cases c1 : vp_in p1 (mnn μ)
  · by_cases c2 : vp_in p2 (mnn μ)
    · have i1 : ¬ (p1 < 0 ∨ ¬ p1 < σ 0 6) := fun q => (idx_node X).mp q c1
      have a1 : ¬ p1 < 0 := fun z => i1 (Or.inl z)
      have b1 : p1 < σ 0 6 := Decidable.byContradiction (fun z => i1 (Or.inr z))
      have i2 : ¬ (p2 < 0 ∨ ¬ p2 < σ 0 6) := fun q => (idx_node X).mp q c2
      have a2 : ¬ p2 < 0 := fun z => i2 (Or.inl z)
      have b2 : p2 < σ 0 6 := Decidable.byContradiction (fun z => i2 (Or.inr z))
      by_cases c0 : p1 = p2
      · exact LwB.th hS hM hD hSn (by decide) (by decide) (by decide) ⟨_, rfl, fun z => absurd z (by decide)⟩ (k_ticksForNew_a hl (t_ticksForNew_0p hl hw hx a1 b1 a2 b2 c0) x7) (fun T' hT => r_ticksForNew_0e hl hT mm c1 c0)
      · obtain ⟨k1, hk1, rfl⟩ := idx_k c1 (bnn X)
        obtain ⟨k2, hk2, rfl⟩ := idx_k c2 (bnn X)
        have hst : k1 ≠ k2 := fun z => c0 (by rw [z])
        have hk1' : k1 < ndn σ := by rw [← cnn X]; exact hk1
        have hk2' : k2 < ndn σ := by rw [← cnn X]; exact hk2
        by_cases c3 : (1 : Int32) ≤ p3 ∧ p3 ≤ (1000 : Int32)
        · have z3 : (1 : Int) ≤ p3.toInt ∧ p3.toInt ≤ (1000 : Int) := ⟨le_i.mp c3.1, le_i.mp c3.2⟩
          obtain ⟨e1, e2, e3, e4⟩ := eq_ticksForNew X hD.2.2.2.1 hk1' hk2' hst z3
          exact LwB.okv hS hM hD hSn (by decide) (by decide) (k_ticksForNew hl (c_fx_ticksForNew2 hl hv hx hw (Or.inr (by omega)) hD.2.2.2.1 w hk1' hk2' hst c3.1 c3.2) x7 ho) (fun L1 => c_mf_ticksForNew hl mo mm hk1 hk2 hst c3.1 c3.2 e2) ⟨_, rfl, fun _ => congrArg Int32.toInt64 e1⟩ z6_mf_ticksForNew e3 kp_ticksForNew e4
        · exact LwB.th hS hM hD hSn (by decide) (by decide) (by decide) ⟨_, rfl, fun z => absurd z (by decide)⟩ (k_ticksForNew_a hl (t_ticksForNew_1 hl hw hx a1 b1 a2 b2 c0 (rng_bad c3).1) x7) (fun T' hT => r_ticksForNew_1 hl hT mm hk1 hk2 hst (rng_bad c3).2)
    · exact LwB.th hS hM hD hSn (by decide) (by decide) (by decide) ⟨_, rfl, fun z => absurd z (by decide)⟩ (k_ticksForNew_i hl (t_ticksForNew_0i hl hw hx (Or.inr ((idx_node X).mpr c2))) x7) (fun T' hT => r_ticksForNew_0 hl hT mm (Or.inr c2))
  · exact LwB.th hS hM hD hSn (by decide) (by decide) (by decide) ⟨_, rfl, fun z => absurd z (by decide)⟩ (k_ticksForNew_i hl (t_ticksForNew_0i hl hw hx (Or.inl ((idx_node X).mpr c1))) x7) (fun T' hT => r_ticksForNew_0 hl hT mm (Or.inl c1))

theorem S_greatestNew {g : pr_C} {l : Launch} (hl : l.stackTraces = false) {x : Nat} {T : pr_T} {I : pr_I} {L : pr_L} {p1 p2 : Int32} (h : LI x T I L) : LwB g l x mL_greatestNew mX8_greatestNew [.ref x, .int p1, .int p2, .ref (x + 267)] [.ref (x + 251), .int p1, .int p2] Pint T I L := by
  obtain ⟨σ, τ, φ, ι, μ, n, hS, hM, hD, hSn⟩ := h
  have X := hD.1
  have w := X.1.1.cr.w
  have mm := X.1.1.cr.m
  have hx := hS.1
  have x7 := hS.1.1
  have hw := hS.2.1
  have hv := hS.2.2.1
  have hf := hS.2.2.2.2.1
  have mo := hS.2.2.2.2.2.2.1
  have ho := hS.2.2.2.2.2.2.2.1
  by_cases c1 : vp_in p1 (mnn μ)
  · by_cases c2 : vp_in p2 (mnn μ)
    · have i1 : ¬ (p1 < 0 ∨ ¬ p1 < σ 0 6) := fun q => (idx_node X).mp q c1
      have a1 : ¬ p1 < 0 := fun z => i1 (Or.inl z)
      have b1 : p1 < σ 0 6 := Decidable.byContradiction (fun z => i1 (Or.inr z))
      have i2 : ¬ (p2 < 0 ∨ ¬ p2 < σ 0 6) := fun q => (idx_node X).mp q c2
      have a2 : ¬ p2 < 0 := fun z => i2 (Or.inl z)
      have b2 : p2 < σ 0 6 := Decidable.byContradiction (fun z => i2 (Or.inr z))
      by_cases c0 : p1 = p2
      · exact LwB.th hS hM hD hSn (by decide) (by decide) (by decide) ⟨_, rfl, fun z => absurd z (by decide)⟩ (k_greatestNew_a hl (t_greatestNew_0p hl hw hx a1 b1 a2 b2 c0) x7) (fun T' hT => r_greatestNew_0e hl hT mm c1 c0)
      · obtain ⟨k1, hk1, rfl⟩ := idx_k c1 (bnn X)
        obtain ⟨k2, hk2, rfl⟩ := idx_k c2 (bnn X)
        have hst : k1 ≠ k2 := fun z => c0 (by rw [z])
        have hk1' : k1 < ndn σ := by rw [← cnn X]; exact hk1
        have hk2' : k2 < ndn σ := by rw [← cnn X]; exact hk2
        obtain ⟨e1, e2, e3, e4⟩ := eq_greatestNew X hD.2.2.2.1 hk1' hk2' hst
        exact LwB.okv hS hM hD hSn (by decide) (by decide) (k_greatestNew hl (c_fx_greatestNew2 hl hv hx hw (Or.inr (by omega)) hD.2.2.2.1 w hk1' hk2' hst) x7 ho) (fun L1 => c_mf_greatestNew hl mo mm hk1 hk2 hst e2) ⟨_, rfl, fun _ => congrArg Int32.toInt64 e1⟩ z6_mf_greatestNew e3 kp_greatestNew e4
    · exact LwB.th hS hM hD hSn (by decide) (by decide) (by decide) ⟨_, rfl, fun z => absurd z (by decide)⟩ (k_greatestNew_i hl (t_greatestNew_0i hl hw hx (Or.inr ((idx_node X).mpr c2))) x7) (fun T' hT => r_greatestNew_0 hl hT mm (Or.inr c2))
  · exact LwB.th hS hM hD hSn (by decide) (by decide) (by decide) ⟨_, rfl, fun z => absurd z (by decide)⟩ (k_greatestNew_i hl (t_greatestNew_0i hl hw hx (Or.inl ((idx_node X).mpr c1))) x7) (fun T' hT => r_greatestNew_0 hl hT mm (Or.inl c1))
