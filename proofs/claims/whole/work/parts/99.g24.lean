/-! A CALL ON BOTH SIDES, part 1 -/
theorem S_nameLetter {g : pr_C} {l : Launch} (hl : l.stackTraces = false) {x : Nat} {T : pr_T} {I : pr_I} {L : pr_L} {p1 p2 : Int32} (h : LI x T I L) : LwB g l x mL_nameLetter mX8_nameLetter [.ref x, .int p1, .int p2, .ref (x + 267)] [.ref (x + 251), .int p1, .int p2] Pint T I L := by
  obtain ⟨σ, τ, φ, ι, μ, n, hS, hM, hD, hSn⟩ := h
  have X := hD.1
  have w := X.1.1.cr.w
  have mm := X.1.1.cr.m
  have hx := hS.1
  have x7 := hS.1.1
  have hw := hS.2.1
  have hv := hS.2.2.1
  have hf := hS.2.2.2.2.1
  have mo := hS.2.2.2.2.2.2.1
  have ho := hS.2.2.2.2.2.2.2.1
  by_cases c1 : vp_in p1 (mnn μ)
  · have i1 : ¬ (p1 < 0 ∨ ¬ p1 < σ 0 6) := fun q => (idx_node X).mp q c1
    have a1 : ¬ p1 < 0 := fun z => i1 (Or.inl z)
    have b1 : p1 < σ 0 6 := Decidable.byContradiction (fun z => i1 (Or.inr z))
    obtain ⟨k1, hk1, rfl⟩ := idx_k c1 (bnn X)
    have hk1' : k1 < ndn σ := by rw [← cnn X]; exact hk1
    exact LwB.okw hS hM hD hSn (by decide) (by decide) (k_nameLetter hl (c_fx_nameLetter hl hw hx w hk1' rfl) x7 ho) (c_mf_nameLetter hl mo mm hk1) ⟨_, rfl, fun _ => congrArg Int32.toInt64 (eq_nameLetter hD.2.1 hk1')⟩ z6_mf_nameLetter (by rw [q_nameLetter]; exact X.mu) (by rw [q_nameLetter]; exact KPm.six)
  · exact LwB.th hS hM hD hSn (by decide) (by decide) (by decide) ⟨_, rfl, fun z => absurd z (by decide)⟩ (k_nameLetter_i hl (t_nameLetter_0 hl hw hx ((idx_node X).mpr c1)) x7) (fun T' hT => r_nameLetter_0 hl hT mm c1)

theorem S_linkValue {g : pr_C} {l : Launch} (hl : l.stackTraces = false) {x : Nat} {T : pr_T} {I : pr_I} {L : pr_L} {p1 p2 : Int32} (h : LI x T I L) : LwB g l x mL_linkValue mX8_linkValue [.ref x, .int p1, .int p2, .ref (x + 267)] [.ref (x + 251), .int p1, .int p2] Pint T I L := by
  obtain ⟨σ, τ, φ, ι, μ, n, hS, hM, hD, hSn⟩ := h
  have X := hD.1
  have w := X.1.1.cr.w
  have mm := X.1.1.cr.m
  have hx := hS.1
  have x7 := hS.1.1
  have hw := hS.2.1
  have hv := hS.2.2.1
  have hf := hS.2.2.2.2.1
  have mo := hS.2.2.2.2.2.2.1
  have ho := hS.2.2.2.2.2.2.2.1
  by_cases c1 : vp_in p1 (mln μ)
  · have i1 : ¬ (p1 < 0 ∨ ¬ p1 < σ 1 8) := fun q => (idx_link X).mp q c1
    have a1 : ¬ p1 < 0 := fun z => i1 (Or.inl z)
    have b1 : p1 < σ 1 8 := Decidable.byContradiction (fun z => i1 (Or.inr z))
    obtain ⟨k1, hk1, rfl⟩ := idx_k c1 (bnl X)
    have hk1' : k1 < lkn σ := by rw [← cnl X]; exact hk1
    by_cases c2 : (0 : Int32) ≤ p2 ∧ p2 ≤ (8 : Int32)
    · obtain ⟨k2, hk2, rfl⟩ := rng_k (b := 8) (by decide) c2.1 (show p2 ≤ nI 8 from c2.2)
      exact LwB.okw hS hM hD hSn (by decide) (by decide) (k_linkValue hl (c_fx_linkValue hl hw hx w hk1' hk2) x7 ho) (c_mf_linkValue hl mo mm hk1 hk2) ⟨_, rfl, fun _ => congrArg Int32.toInt64 (eq_linkValue X.1 hk1' hk2)⟩ pr_upe X.mu KPm.six
    · exact LwB.th hS hM hD hSn (by decide) (by decide) (by decide) ⟨_, rfl, fun z => absurd z (by decide)⟩ (k_linkValue_a hl (t_linkValue_1 hl hw hx a1 b1 (rng_bad c2).1) x7) (fun T' hT => r_linkValue_1 hl hT mm hk1 (rng_bad c2).2)
  · exact LwB.th hS hM hD hSn (by decide) (by decide) (by decide) ⟨_, rfl, fun z => absurd z (by decide)⟩ (k_linkValue_i hl (t_linkValue_0 hl hw hx ((idx_link X).mpr c1)) x7) (fun T' hT => r_linkValue_0 hl hT mm c1)

theorem S_setting {g : pr_C} {l : Launch} (hl : l.stackTraces = false) {x : Nat} {T : pr_T} {I : pr_I} {L : pr_L} {p1 : Int32} (h : LI x T I L) : LwB g l x mL_setting mX8_setting [.ref x, .int p1, .ref (x + 267)] [.ref (x + 251), .int p1] Pint T I L := by
  obtain ⟨σ, τ, φ, ι, μ, n, hS, hM, hD, hSn⟩ := h
  have X := hD.1
  have w := X.1.1.cr.w
  have mm := X.1.1.cr.m
  have hx := hS.1
  have x7 := hS.1.1
  have hw := hS.2.1
  have hv := hS.2.2.1
  have hf := hS.2.2.2.2.1
  have mo := hS.2.2.2.2.2.2.1
  have ho := hS.2.2.2.2.2.2.2.1
  by_cases c1 : (0 : Int32) ≤ p1 ∧ p1 ≤ (4 : Int32)
  · obtain ⟨k1, hk1, rfl⟩ := rng_k (b := 4) (by decide) c1.1 (show p1 ≤ nI 4 from c1.2)
    exact LwB.okw hS hM hD hSn (by decide) (by decide) (k_setting hl (c_fx_setting hl hw hx w hk1) x7 ho) (c_mf_setting hl mo mm hk1) ⟨_, rfl, fun _ => congrArg Int32.toInt64 (eq_setting X.1 (by omega))⟩ z6_mf_setting X.mu KPm.six
  · exact LwB.th hS hM hD hSn (by decide) (by decide) (by decide) ⟨_, rfl, fun z => absurd z (by decide)⟩ (k_setting_a hl (t_setting_0 hl hw hx (rng_bad c1).1) x7) (fun T' hT => r_setting_0 hl hT mm (rng_bad c1).2)

theorem S_requestValue {g : pr_C} {l : Launch} (hl : l.stackTraces = false) {x : Nat} {T : pr_T} {I : pr_I} {L : pr_L} {p1 p2 : Int32} (h : LI x T I L) : LwB g l x mL_requestValue mX8_requestValue [.ref x, .int p1, .int p2, .ref (x + 267)] [.ref (x + 251), .int p1, .int p2] Pint T I L := by
  obtain ⟨σ, τ, φ, ι, μ, n, hS, hM, hD, hSn⟩ := h
  have X := hD.1
  have w := X.1.1.cr.w
  have mm := X.1.1.cr.m
  have hx := hS.1
  have x7 := hS.1.1
  have hw := hS.2.1
  have hv := hS.2.2.1
  have hf := hS.2.2.2.2.1
  have mo := hS.2.2.2.2.2.2.1
  have ho := hS.2.2.2.2.2.2.2.1
  by_cases c1 : vp_in p1 (mrn μ)
  · have i1 : ¬ (p1 < 0 ∨ ¬ p1 < σ 18 17) := fun q => (idx_req X).mp q c1
    have a1 : ¬ p1 < 0 := fun z => i1 (Or.inl z)
    have b1 : p1 < σ 18 17 := Decidable.byContradiction (fun z => i1 (Or.inr z))
    obtain ⟨k1, hk1, rfl⟩ := idx_k c1 (bnr X)
    have hk1' : k1 < rqn σ := by rw [← cnr X]; exact hk1
    by_cases c2 : (0 : Int32) ≤ p2 ∧ p2 ≤ (12 : Int32)
    · obtain ⟨k2, hk2, rfl⟩ := rng_k (b := 12) (by decide) c2.1 (show p2 ≤ nI 12 from c2.2)
      exact LwB.okw hS hM hD hSn (by decide) (by decide) (k_requestValue hl (c_fx_requestValue hl hw hx w hk1' hk2) x7 ho) (c_mf_requestValue hl mo mm hk1 hk2) ⟨_, rfl, fun _ => congrArg Int32.toInt64 (eq_requestValue X.1 hk1' hk2)⟩ z6_mf_requestValue X.mu KPm.six
    · exact LwB.th hS hM hD hSn (by decide) (by decide) (by decide) ⟨_, rfl, fun z => absurd z (by decide)⟩ (k_requestValue_a hl (t_requestValue_1 hl hw hx a1 b1 (rng_bad c2).1) x7) (fun T' hT => r_requestValue_1 hl hT mm hk1 (rng_bad c2).2)
  · exact LwB.th hS hM hD hSn (by decide) (by decide) (by decide) ⟨_, rfl, fun z => absurd z (by decide)⟩ (k_requestValue_i hl (t_requestValue_0 hl hw hx ((idx_req X).mpr c1)) x7) (fun T' hT => r_requestValue_0 hl hT mm c1)

theorem S_pathLength {g : pr_C} {l : Launch} (hl : l.stackTraces = false) {x : Nat} {T : pr_T} {I : pr_I} {L : pr_L} {p1 : Int32} (h : LI x T I L) : LwB g l x mL_pathLength mX8_pathLength [.ref x, .int p1, .ref (x + 267)] [.ref (x + 251), .int p1] Pint T I L := by
  obtain ⟨σ, τ, φ, ι, μ, n, hS, hM, hD, hSn⟩ := h
  have X := hD.1
  have w := X.1.1.cr.w
  have mm := X.1.1.cr.m
  have hx := hS.1
  have x7 := hS.1.1
  have hw := hS.2.1
  have hv := hS.2.2.1
  have hf := hS.2.2.2.2.1
  have mo := hS.2.2.2.2.2.2.1
  have ho := hS.2.2.2.2.2.2.2.1
  by_cases c1 : vp_in p1 (mrn μ)
  · have i1 : ¬ (p1 < 0 ∨ ¬ p1 < σ 18 17) := fun q => (idx_req X).mp q c1
    have a1 : ¬ p1 < 0 := fun z => i1 (Or.inl z)
    have b1 : p1 < σ 18 17 := Decidable.byContradiction (fun z => i1 (Or.inr z))
    obtain ⟨k1, hk1, rfl⟩ := idx_k c1 (bnr X)
    have hk1' : k1 < rqn σ := by rw [← cnr X]; exact hk1
    exact LwB.okw hS hM hD hSn (by decide) (by decide) (k_pathLength hl (c_fx_pathLength hl hw hx w hk1') x7 ho) (c_mf_pathLength hl mo mm hk1) ⟨_, rfl, fun _ => congrArg Int32.toInt64 (eq_pathLength X.1 hk1')⟩ z6_mf_pathLength X.mu KPm.six
  · exact LwB.th hS hM hD hSn (by decide) (by decide) (by decide) ⟨_, rfl, fun z => absurd z (by decide)⟩ (k_pathLength_i hl (t_pathLength_0 hl hw hx ((idx_req X).mpr c1)) x7) (fun T' hT => r_pathLength_0 hl hT mm c1)

theorem S_pathLink {g : pr_C} {l : Launch} (hl : l.stackTraces = false) {x : Nat} {T : pr_T} {I : pr_I} {L : pr_L} {p1 p2 : Int32} (h : LI x T I L) : LwB g l x mL_pathLink mX8_pathLink [.ref x, .int p1, .int p2, .ref (x + 267)] [.ref (x + 251), .int p1, .int p2] Pint T I L := by
  obtain ⟨σ, τ, φ, ι, μ, n, hS, hM, hD, hSn⟩ := h
  have X := hD.1
  have w := X.1.1.cr.w
  have mm := X.1.1.cr.m
  have hx := hS.1
  have x7 := hS.1.1
  have hw := hS.2.1
  have hv := hS.2.2.1
  have hf := hS.2.2.2.2.1
  have mo := hS.2.2.2.2.2.2.1
  have ho := hS.2.2.2.2.2.2.2.1
  by_cases c1 : vp_in p1 (mrn μ)
  · have i1 : ¬ (p1 < 0 ∨ ¬ p1 < σ 18 17) := fun q => (idx_req X).mp q c1
    have a1 : ¬ p1 < 0 := fun z => i1 (Or.inl z)
    have b1 : p1 < σ 18 17 := Decidable.byContradiction (fun z => i1 (Or.inr z))
    obtain ⟨k1, hk1, rfl⟩ := idx_k c1 (bnr X)
    have hk1' : k1 < rqn σ := by rw [← cnr X]; exact hk1
    exact LwB.okw hS hM hD hSn (by decide) (by decide) (k_pathLink hl (c_fx_pathLink hl hw hx w hk1') x7 ho) (c_mf_pathLink hl mo mm hk1) ⟨_, rfl, fun _ => congrArg Int32.toInt64 (eq_pathLink X.1 hk1')⟩ z6_mf_pathLink (by rw [q_pathLink]; exact X.mu) (by rw [q_pathLink]; exact KPm.six)
  · exact LwB.th hS hM hD hSn (by decide) (by decide) (by decide) ⟨_, rfl, fun z => absurd z (by decide)⟩ (k_pathLink_i hl (t_pathLink_0 hl hw hx ((idx_req X).mpr c1)) x7) (fun T' hT => r_pathLink_0 hl hT mm c1)

theorem S_placeOf {g : pr_C} {l : Launch} (hl : l.stackTraces = false) {x : Nat} {T : pr_T} {I : pr_I} {L : pr_L} {p1 : Int32} (h : LI x T I L) : LwB g l x mL_placeOf mX8_placeOf [.ref x, .int p1, .ref (x + 267)] [.ref (x + 251), .int p1] Pint T I L := by
  obtain ⟨σ, τ, φ, ι, μ, n, hS, hM, hD, hSn⟩ := h
  have X := hD.1
  have w := X.1.1.cr.w
  have mm := X.1.1.cr.m
  have hx := hS.1
  have x7 := hS.1.1
  have hw := hS.2.1
  have hv := hS.2.2.1
  have hf := hS.2.2.2.2.1
  have mo := hS.2.2.2.2.2.2.1
  have ho := hS.2.2.2.2.2.2.2.1
  by_cases c1 : vp_in p1 (mrn μ)
  · have i1 : ¬ (p1 < 0 ∨ ¬ p1 < σ 18 17) := fun q => (idx_req X).mp q c1
    have a1 : ¬ p1 < 0 := fun z => i1 (Or.inl z)
    have b1 : p1 < σ 18 17 := Decidable.byContradiction (fun z => i1 (Or.inr z))
    obtain ⟨k1, hk1, rfl⟩ := idx_k c1 (bnr X)
    have hk1' : k1 < rqn σ := by rw [← cnr X]; exact hk1
    exact LwB.okw hS hM hD hSn (by decide) (by decide) (k_placeOf hl (c_fx_placeOf hl hw hx w hk1') x7 ho) (c_mf_placeOf hl mo mm hk1) ⟨_, rfl, fun _ => congrArg Int32.toInt64 (eq_placeOf X.1 hk1')⟩ z6_mf_placeOf X.mu KPm.six
  · exact LwB.th hS hM hD hSn (by decide) (by decide) (by decide) ⟨_, rfl, fun z => absurd z (by decide)⟩ (k_placeOf_i hl (t_placeOf_0 hl hw hx ((idx_req X).mpr c1)) x7) (fun T' hT => r_placeOf_0 hl hT mm c1)

theorem S_inState {g : pr_C} {l : Launch} (hl : l.stackTraces = false) {x : Nat} {T : pr_T} {I : pr_I} {L : pr_L} {p1 : Int32} (h : LI x T I L) : LwB g l x mL_inState mX8_inState [.ref x, .int p1, .ref (x + 267)] [.ref (x + 251), .int p1] Pint T I L := by
  obtain ⟨σ, τ, φ, ι, μ, n, hS, hM, hD, hSn⟩ := h
  have X := hD.1
  have w := X.1.1.cr.w
  have mm := X.1.1.cr.m
  have hx := hS.1
  have x7 := hS.1.1
  have hw := hS.2.1
  have hv := hS.2.2.1
  have hf := hS.2.2.2.2.1
  have mo := hS.2.2.2.2.2.2.1
  have ho := hS.2.2.2.2.2.2.2.1
  by_cases c1 : (0 : Int32) ≤ p1 ∧ p1 ≤ (7 : Int32)
  · obtain ⟨k1, hk1, rfl⟩ := rng_k (b := 7) (by decide) c1.1 (show p1 ≤ nI 7 from c1.2)
    exact LwB.okw hS hM hD hSn (by decide) (by decide) (k_inState hl (c_fx_inState hl hw hx w hk1) x7 ho) (c_mf_inState hl mo mm hk1) ⟨_, rfl, fun _ => congrArg Int32.toInt64 (eq_inState X.1)⟩ z6_mf_inState X.mu KPm.six
  · exact LwB.th hS hM hD hSn (by decide) (by decide) (by decide) ⟨_, rfl, fun z => absurd z (by decide)⟩ (k_inState_a hl (t_inState_0 hl hw hx (rng_bad c1).1) x7) (fun T' hT => r_inState_0 hl hT mm (rng_bad c1).2)

theorem S_requestInState {g : pr_C} {l : Launch} (hl : l.stackTraces = false) {x : Nat} {T : pr_T} {I : pr_I} {L : pr_L} {p1 p2 : Int32} (h : LI x T I L) : LwB g l x mL_requestInState mX8_requestInState [.ref x, .int p1, .int p2, .ref (x + 267)] [.ref (x + 251), .int p1, .int p2] Pint T I L := by
  obtain ⟨σ, τ, φ, ι, μ, n, hS, hM, hD, hSn⟩ := h
  have X := hD.1
  have w := X.1.1.cr.w
  have mm := X.1.1.cr.m
  have hx := hS.1
  have x7 := hS.1.1
  have hw := hS.2.1
  have hv := hS.2.2.1
  have hf := hS.2.2.2.2.1
  have mo := hS.2.2.2.2.2.2.1
  have ho := hS.2.2.2.2.2.2.2.1
  by_cases c1 : (0 : Int32) ≤ p1 ∧ p1 ≤ (7 : Int32)
  · obtain ⟨k1, hk1, rfl⟩ := rng_k (b := 7) (by decide) c1.1 (show p1 ≤ nI 7 from c1.2)
    exact LwB.okw hS hM hD hSn (by decide) (by decide) (k_requestInState hl (c_fx_requestInState hl hw hx w hk1) x7 ho) (c_mf_requestInState hl mo mm hk1) ⟨_, rfl, fun _ => congrArg Int32.toInt64 (eq_requestInState X.1)⟩ z6_mf_requestInState X.mu KPm.six
  · exact LwB.th hS hM hD hSn (by decide) (by decide) (by decide) ⟨_, rfl, fun z => absurd z (by decide)⟩ (k_requestInState_a hl (t_requestInState_0 hl hw hx (rng_bad c1).1) x7) (fun T' hT => r_requestInState_0 hl hT mm (rng_bad c1).2)

theorem S_ticketValue {g : pr_C} {l : Launch} (hl : l.stackTraces = false) {x : Nat} {T : pr_T} {I : pr_I} {L : pr_L} {p1 p2 : Int32} (h : LI x T I L) : LwB g l x mL_ticketValue mX8_ticketValue [.ref x, .int p1, .int p2, .ref (x + 267)] [.ref (x + 251), .int p1, .int p2] Pint T I L := by
  obtain ⟨σ, τ, φ, ι, μ, n, hS, hM, hD, hSn⟩ := h
  have X := hD.1
  have w := X.1.1.cr.w
  have mm := X.1.1.cr.m
  have hx := hS.1
  have x7 := hS.1.1
  have hw := hS.2.1
  have hv := hS.2.2.1
  have hf := hS.2.2.2.2.1
  have mo := hS.2.2.2.2.2.2.1
  have ho := hS.2.2.2.2.2.2.2.1
  by_cases c1 : vp_in p1 (mtn μ)
  · have i1 : ¬ (p1 < 0 ∨ ¬ p1 < σ 9 8) := fun q => (idx_tick X).mp q c1
    have a1 : ¬ p1 < 0 := fun z => i1 (Or.inl z)
    have b1 : p1 < σ 9 8 := Decidable.byContradiction (fun z => i1 (Or.inr z))
    obtain ⟨k1, hk1, rfl⟩ := idx_k c1 (bnt X)
    have hk1' : k1 < tkn σ := by rw [← cnt X]; exact hk1
    by_cases c2 : (0 : Int32) ≤ p2 ∧ p2 ≤ (7 : Int32)
    · obtain ⟨k2, hk2, rfl⟩ := rng_k (b := 7) (by decide) c2.1 (show p2 ≤ nI 7 from c2.2)
      exact LwB.okw hS hM hD hSn (by decide) (by decide) (k_ticketValue hl (c_fx_ticketValue hl hw hx w hk1' hk2) x7 ho) (c_mf_ticketValue hl mo mm hk1 hk2) ⟨_, rfl, fun _ => congrArg Int32.toInt64 (eq_ticketValue X.1 hk1' hk2)⟩ z6_mf_ticketValue X.mu KPm.six
    · exact LwB.th hS hM hD hSn (by decide) (by decide) (by decide) ⟨_, rfl, fun z => absurd z (by decide)⟩ (k_ticketValue_a hl (t_ticketValue_1 hl hw hx a1 b1 (rng_bad c2).1) x7) (fun T' hT => r_ticketValue_1 hl hT mm hk1 (rng_bad c2).2)
  · exact LwB.th hS hM hD hSn (by decide) (by decide) (by decide) ⟨_, rfl, fun z => absurd z (by decide)⟩ (k_ticketValue_i hl (t_ticketValue_0 hl hw hx ((idx_tick X).mpr c1)) x7) (fun T' hT => r_ticketValue_0 hl hT mm c1)

theorem S_ticketOn {g : pr_C} {l : Launch} (hl : l.stackTraces = false) {x : Nat} {T : pr_T} {I : pr_I} {L : pr_L} {p1 p2 : Int32} (h : LI x T I L) : LwB g l x mL_ticketOn mX8_ticketOn [.ref x, .int p1, .int p2, .ref (x + 267)] [.ref (x + 251), .int p1, .int p2] Pint T I L := by
  obtain ⟨σ, τ, φ, ι, μ, n, hS, hM, hD, hSn⟩ := h
  have X := hD.1
  have w := X.1.1.cr.w
  have mm := X.1.1.cr.m
  have hx := hS.1
  have x7 := hS.1.1
  have hw := hS.2.1
  have hv := hS.2.2.1
  have hf := hS.2.2.2.2.1
  have mo := hS.2.2.2.2.2.2.1
  have ho := hS.2.2.2.2.2.2.2.1
  by_cases c1 : vp_in p1 (mln μ)
  · have i1 : ¬ (p1 < 0 ∨ ¬ p1 < σ 1 8) := fun q => (idx_link X).mp q c1
    have a1 : ¬ p1 < 0 := fun z => i1 (Or.inl z)
    have b1 : p1 < σ 1 8 := Decidable.byContradiction (fun z => i1 (Or.inr z))
    obtain ⟨k1, hk1, rfl⟩ := idx_k c1 (bnl X)
    have hk1' : k1 < lkn σ := by rw [← cnl X]; exact hk1
    exact LwB.okw hS hM hD hSn (by decide) (by decide) (k_ticketOn hl (c_fx_ticketOn hl hw hx w hk1') x7 ho) (c_mf_ticketOn hl mo mm hk1) ⟨_, rfl, fun _ => congrArg Int32.toInt64 (eq_ticketOn X.1)⟩ z6_mf_ticketOn X.mu KPm.six
  · exact LwB.th hS hM hD hSn (by decide) (by decide) (by decide) ⟨_, rfl, fun z => absurd z (by decide)⟩ (k_ticketOn_i hl (t_ticketOn_0 hl hw hx ((idx_link X).mpr c1)) x7) (fun T' hT => r_ticketOn_0 hl hT mm c1)

theorem S_ticketsInState {g : pr_C} {l : Launch} (hl : l.stackTraces = false) {x : Nat} {T : pr_T} {I : pr_I} {L : pr_L} {p1 : Int32} (h : LI x T I L) : LwB g l x mL_ticketsInState mX8_ticketsInState [.ref x, .int p1, .ref (x + 267)] [.ref (x + 251), .int p1] Pint T I L := by
  obtain ⟨σ, τ, φ, ι, μ, n, hS, hM, hD, hSn⟩ := h
  have X := hD.1
  have w := X.1.1.cr.w
  have mm := X.1.1.cr.m
  have hx := hS.1
  have x7 := hS.1.1
  have hw := hS.2.1
  have hv := hS.2.2.1
  have hf := hS.2.2.2.2.1
  have mo := hS.2.2.2.2.2.2.1
  have ho := hS.2.2.2.2.2.2.2.1
  by_cases c1 : (0 : Int32) ≤ p1 ∧ p1 ≤ (3 : Int32)
  · obtain ⟨k1, hk1, rfl⟩ := rng_k (b := 3) (by decide) c1.1 (show p1 ≤ nI 3 from c1.2)
    exact LwB.okw hS hM hD hSn (by decide) (by decide) (k_ticketsInState hl (c_fx_ticketsInState hl hw hx w hk1) x7 ho) (c_mf_ticketsInState hl mo mm hk1) ⟨_, rfl, fun _ => congrArg Int32.toInt64 (eq_ticketsInState X.1)⟩ z6_mf_ticketsInState X.mu KPm.six
  · exact LwB.th hS hM hD hSn (by decide) (by decide) (by decide) ⟨_, rfl, fun z => absurd z (by decide)⟩ (k_ticketsInState_a hl (t_ticketsInState_0 hl hw hx (rng_bad c1).1) x7) (fun T' hT => r_ticketsInState_0 hl hT mm (rng_bad c1).2)

theorem S_ticketsOf {g : pr_C} {l : Launch} (hl : l.stackTraces = false) {x : Nat} {T : pr_T} {I : pr_I} {L : pr_L} {p1 p2 : Int32} (h : LI x T I L) : LwB g l x mL_ticketsOf mX8_ticketsOf [.ref x, .int p1, .int p2, .ref (x + 267)] [.ref (x + 251), .int p1, .int p2] Pint T I L := by
  obtain ⟨σ, τ, φ, ι, μ, n, hS, hM, hD, hSn⟩ := h
  have X := hD.1
  have w := X.1.1.cr.w
  have mm := X.1.1.cr.m
  have hx := hS.1
  have x7 := hS.1.1
  have hw := hS.2.1
  have hv := hS.2.2.1
  have hf := hS.2.2.2.2.1
  have mo := hS.2.2.2.2.2.2.1
  have ho := hS.2.2.2.2.2.2.2.1
  by_cases c1 : vp_in p1 (mrn μ)
  · have i1 : ¬ (p1 < 0 ∨ ¬ p1 < σ 18 17) := fun q => (idx_req X).mp q c1
    have a1 : ¬ p1 < 0 := fun z => i1 (Or.inl z)
    have b1 : p1 < σ 18 17 := Decidable.byContradiction (fun z => i1 (Or.inr z))
    obtain ⟨k1, hk1, rfl⟩ := idx_k c1 (bnr X)
    have hk1' : k1 < rqn σ := by rw [← cnr X]; exact hk1
    by_cases c2 : (0 : Int32) ≤ p2 ∧ p2 ≤ (3 : Int32)
    · obtain ⟨k2, hk2, rfl⟩ := rng_k (b := 3) (by decide) c2.1 (show p2 ≤ nI 3 from c2.2)
      exact LwB.okw hS hM hD hSn (by decide) (by decide) (k_ticketsOf hl (c_fx_ticketsOf hl hw hx w hk1' hk2) x7 ho) (c_mf_ticketsOf hl mo mm hk1 hk2) ⟨_, rfl, fun _ => congrArg Int32.toInt64 (eq_ticketsOf X.1)⟩ z6_mf_ticketsOf X.mu KPm.six
    · exact LwB.th hS hM hD hSn (by decide) (by decide) (by decide) ⟨_, rfl, fun z => absurd z (by decide)⟩ (k_ticketsOf_a hl (t_ticketsOf_1 hl hw hx a1 b1 (rng_bad c2).1) x7) (fun T' hT => r_ticketsOf_1 hl hT mm hk1 (rng_bad c2).2)
  · exact LwB.th hS hM hD hSn (by decide) (by decide) (by decide) ⟨_, rfl, fun z => absurd z (by decide)⟩ (k_ticketsOf_i hl (t_ticketsOf_0 hl hw hx ((idx_req X).mpr c1)) x7) (fun T' hT => r_ticketsOf_0 hl hT mm c1)

theorem S_reachable {g : pr_C} {l : Launch} (hl : l.stackTraces = false) {x : Nat} {T : pr_T} {I : pr_I} {L : pr_L} {p1 p2 : Int32} (h : LI x T I L) : LwB g l x mL_reachable mX8_reachable [.ref x, .int p1, .int p2, .ref (x + 267)] [.ref (x + 251), .int p1, .int p2] Pint T I L := by
  obtain ⟨σ, τ, φ, ι, μ, n, hS, hM, hD, hSn⟩ := h
  have X := hD.1
  have w := X.1.1.cr.w
  have mm := X.1.1.cr.m
  have hx := hS.1
  have x7 := hS.1.1
  have hw := hS.2.1
  have hv := hS.2.2.1
  have hf := hS.2.2.2.2.1
  have mo := hS.2.2.2.2.2.2.1
  have ho := hS.2.2.2.2.2.2.2.1
  by_cases c1 : vp_in p1 (mnn μ)
  · have i1 : ¬ (p1 < 0 ∨ ¬ p1 < σ 0 6) := fun q => (idx_node X).mp q c1
    have a1 : ¬ p1 < 0 := fun z => i1 (Or.inl z)
    have b1 : p1 < σ 0 6 := Decidable.byContradiction (fun z => i1 (Or.inr z))
    obtain ⟨k1, hk1, rfl⟩ := idx_k c1 (bnn X)
    have hk1' : k1 < ndn σ := by rw [← cnn X]; exact hk1
    by_cases c2 : (0 : Int32) ≤ p2 ∧ p2 ≤ (1000 : Int32)
    · have z2 : (0 : Int) ≤ p2.toInt ∧ p2.toInt ≤ (1000 : Int) := ⟨le_i.mp c2.1, le_i.mp c2.2⟩
      exact LwB.okw hS hM hD hSn (by decide) (by decide) (k_reachable hl (c_fx_reachable hl hw hx w hk1' c2.1 c2.2) x7 ho) (c_mf_reachable hl mo mm hk1 c2.1 c2.2) ⟨_, rfl, fun _ => congrArg Int32.toInt64 (eq_reachable X.1 hk1')⟩ z6_mf_reachable X.mu KPm.six
    · exact LwB.th hS hM hD hSn (by decide) (by decide) (by decide) ⟨_, rfl, fun z => absurd z (by decide)⟩ (k_reachable_a hl (t_reachable_1 hl hw hx a1 b1 (rng_bad c2).1) x7) (fun T' hT => r_reachable_1 hl hT mm hk1 (rng_bad c2).2)
  · exact LwB.th hS hM hD hSn (by decide) (by decide) (by decide) ⟨_, rfl, fun z => absurd z (by decide)⟩ (k_reachable_i hl (t_reachable_0 hl hw hx ((idx_node X).mpr c1)) x7) (fun T' hT => r_reachable_0 hl hT mm c1)
