/-! A CALL ON BOTH SIDES, part 2 -/
theorem S_setCapacity {g : pr_C} {l : Launch} (hl : l.stackTraces = false) {x : Nat} {T : pr_T} {I : pr_I} {L : pr_L} {p1 p2 : Int32} (h : LI x T I L) : LwB g l x mL_setCapacity mX8_setCapacity [.ref x, .int p1, .int p2, .ref (x + 267)] [.ref (x + 251), .int p1, .int p2] Pint T I L := by
  obtain ⟨σ, τ, φ, ι, μ, n, hS, hM, hD, hSn⟩ := h
  have X := hD.1
  have w := X.1.1.cr.w
  have mm := X.1.1.cr.m
  have hx := hS.1
  have x7 := hS.1.1
  have hw := hS.2.1
  have hv := hS.2.2.1
  have hf := hS.2.2.2.2.1
  have mo := hS.2.2.2.2.2.2.1
  have ho := hS.2.2.2.2.2.2.2.1
  by_cases c1 : vp_in p1 (mln μ)
  · have i1 : ¬ (p1 < 0 ∨ ¬ p1 < σ 1 8) := fun q => (idx_link X).mp q c1
    have a1 : ¬ p1 < 0 := fun z => i1 (Or.inl z)
    have b1 : p1 < σ 1 8 := Decidable.byContradiction (fun z => i1 (Or.inr z))
    obtain ⟨k1, hk1, rfl⟩ := idx_k c1 (bnl X)
    have hk1' : k1 < lkn σ := by rw [← cnl X]; exact hk1
    by_cases c2 : (0 : Int32) ≤ p2 ∧ p2 ≤ (1000 : Int32)
    · have z2 : (0 : Int) ≤ p2.toInt ∧ p2.toInt ≤ (1000 : Int) := ⟨le_i.mp c2.1, le_i.mp c2.2⟩
      obtain ⟨e1, e2⟩ := eq_setCapacity X.1 hk1' z2
      exact LwB.okw hS hM hD hSn (by decide) (by decide) (k_setCapacity hl (c_fx_setCapacity hl hw hx w hk1' c2.1 c2.2) x7 ho) (c_mf_setCapacity hl mo mm hk1 c2.1 c2.2) ⟨_, rfl, fun _ => congrArg Int32.toInt64 e2⟩ z6_mf_setCapacity (WXof X e1 (tx_setCapacity X.2.1) (fv_mf_setCapacity (by decide) (fun m hm => by cases hm))) kp_setCapacity
    · exact LwB.th hS hM hD hSn (by decide) (by decide) (by decide) ⟨_, rfl, fun z => absurd z (by decide)⟩ (k_setCapacity_a hl (t_setCapacity_1 hl hw hx a1 b1 (rng_bad c2).1) x7) (fun T' hT => r_setCapacity_1 hl hT mm hk1 (rng_bad c2).2)
  · exact LwB.th hS hM hD hSn (by decide) (by decide) (by decide) ⟨_, rfl, fun z => absurd z (by decide)⟩ (k_setCapacity_i hl (t_setCapacity_0 hl hw hx ((idx_link X).mpr c1)) x7) (fun T' hT => r_setCapacity_0 hl hT mm c1)

theorem S_takeDown {g : pr_C} {l : Launch} (hl : l.stackTraces = false) {x : Nat} {T : pr_T} {I : pr_I} {L : pr_L} {p1 : Int32} (h : LI x T I L) : LwB g l x mL_takeDown mX8_takeDown [.ref x, .int p1, .ref (x + 267)] [.ref (x + 251), .int p1] Pint T I L := by
  obtain ⟨σ, τ, φ, ι, μ, n, hS, hM, hD, hSn⟩ := h
  have X := hD.1
  have w := X.1.1.cr.w
  have mm := X.1.1.cr.m
  have hx := hS.1
  have x7 := hS.1.1
  have hw := hS.2.1
  have hv := hS.2.2.1
  have hf := hS.2.2.2.2.1
  have mo := hS.2.2.2.2.2.2.1
  have ho := hS.2.2.2.2.2.2.2.1
  by_cases c1 : vp_in p1 (mln μ)
  · have i1 : ¬ (p1 < 0 ∨ ¬ p1 < σ 1 8) := fun q => (idx_link X).mp q c1
    have a1 : ¬ p1 < 0 := fun z => i1 (Or.inl z)
    have b1 : p1 < σ 1 8 := Decidable.byContradiction (fun z => i1 (Or.inr z))
    obtain ⟨k1, hk1, rfl⟩ := idx_k c1 (bnl X)
    have hk1' : k1 < lkn σ := by rw [← cnl X]; exact hk1
    obtain ⟨e1, e2, e3⟩ := eq_takeDown X.1 hk1'
    exact LwB.okw hS hM hD hSn (by decide) (by decide) (k_takeDown hl (c_fx_takeDown hl hw hx w hk1') x7 ho) (c_mf_takeDown hl mo mm hk1 e3) ⟨_, rfl, fun _ => congrArg Int32.toInt64 e2⟩ z6_mf_takeDown (WXof X e1 (tx_takeDown X.1 X.2.1 hk1') (fv_mf_takeDown (by decide) (fun m hm => by cases hm))) kp_takeDown
  · exact LwB.th hS hM hD hSn (by decide) (by decide) (by decide) ⟨_, rfl, fun z => absurd z (by decide)⟩ (k_takeDown_i hl (t_takeDown_0 hl hw hx ((idx_link X).mpr c1)) x7) (fun T' hT => r_takeDown_0 hl hT mm c1)

theorem S_bringUp {g : pr_C} {l : Launch} (hl : l.stackTraces = false) {x : Nat} {T : pr_T} {I : pr_I} {L : pr_L} {p1 : Int32} (h : LI x T I L) : LwB g l x mL_bringUp mX8_bringUp [.ref x, .int p1, .ref (x + 267)] [.ref (x + 251), .int p1] Pint T I L := by
  obtain ⟨σ, τ, φ, ι, μ, n, hS, hM, hD, hSn⟩ := h
  have X := hD.1
  have w := X.1.1.cr.w
  have mm := X.1.1.cr.m
  have hx := hS.1
  have x7 := hS.1.1
  have hw := hS.2.1
  have hv := hS.2.2.1
  have hf := hS.2.2.2.2.1
  have mo := hS.2.2.2.2.2.2.1
  have ho := hS.2.2.2.2.2.2.2.1
  by_cases c1 : vp_in p1 (mln μ)
  · have i1 : ¬ (p1 < 0 ∨ ¬ p1 < σ 1 8) := fun q => (idx_link X).mp q c1
    have a1 : ¬ p1 < 0 := fun z => i1 (Or.inl z)
    have b1 : p1 < σ 1 8 := Decidable.byContradiction (fun z => i1 (Or.inr z))
    obtain ⟨k1, hk1, rfl⟩ := idx_k c1 (bnl X)
    have hk1' : k1 < lkn σ := by rw [← cnl X]; exact hk1
    obtain ⟨e1, e2⟩ := eq_bringUp X.1 hk1'
    exact LwB.okw hS hM hD hSn (by decide) (by decide) (k_bringUp hl (c_fx_bringUp hl hw hx w hk1') x7 ho) (c_mf_bringUp hl mo mm hk1) ⟨_, rfl, fun _ => congrArg Int32.toInt64 e2⟩ z6_mf_bringUp (WXof X e1 (tx_bringUp X.2.1) (fv_mf_bringUp (by decide) (fun m hm => by cases hm))) kp_bringUp
  · exact LwB.th hS hM hD hSn (by decide) (by decide) (by decide) ⟨_, rfl, fun z => absurd z (by decide)⟩ (k_bringUp_i hl (t_bringUp_0 hl hw hx ((idx_link X).mpr c1)) x7) (fun T' hT => r_bringUp_0 hl hT mm c1)

theorem S_request {g : pr_C} {l : Launch} (hl : l.stackTraces = false) {x : Nat} {T : pr_T} {I : pr_I} {L : pr_L} {p1 p2 p3 p4 : Int32} (h : LI x T I L) : LwB g l x mL_request mX8_request [.ref x, .int p1, .int p2, .int p3, .int p4, .ref (x + 267)] [.ref (x + 251), .int p1, .int p2, .int p3, .int p4] Pint T I L := by
  obtain ⟨σ, τ, φ, ι, μ, n, hS, hM, hD, hSn⟩ := h
  have X := hD.1
  have w := X.1.1.cr.w
  have mm := X.1.1.cr.m
  have hx := hS.1
  have x7 := hS.1.1
  have hw := hS.2.1
  have hv := hS.2.2.1
  have hf := hS.2.2.2.2.1
  have mo := hS.2.2.2.2.2.2.1
  have ho := hS.2.2.2.2.2.2.2.1
  by_cases c1 : vp_in p1 (mnn μ)
  · by_cases c2 : vp_in p2 (mnn μ)
    · have i1 : ¬ (p1 < 0 ∨ ¬ p1 < σ 0 6) := fun q => (idx_node X).mp q c1
      have a1 : ¬ p1 < 0 := fun z => i1 (Or.inl z)
      have b1 : p1 < σ 0 6 := Decidable.byContradiction (fun z => i1 (Or.inr z))
      have i2 : ¬ (p2 < 0 ∨ ¬ p2 < σ 0 6) := fun q => (idx_node X).mp q c2
      have a2 : ¬ p2 < 0 := fun z => i2 (Or.inl z)
      have b2 : p2 < σ 0 6 := Decidable.byContradiction (fun z => i2 (Or.inr z))
      by_cases c0 : p1 = p2
      · exact LwB.th hS hM hD hSn (by decide) (by decide) (by decide) ⟨_, rfl, fun z => absurd z (by decide)⟩ (k_request_a hl (t_request_0p hl hw hx a1 b1 a2 b2 c0) x7) (fun T' hT => r_request_0e hl hT mm c1 c0)
      · obtain ⟨k1, hk1, rfl⟩ := idx_k c1 (bnn X)
        obtain ⟨k2, hk2, rfl⟩ := idx_k c2 (bnn X)
        have hst : k1 ≠ k2 := fun z => c0 (by rw [z])
        have hk1' : k1 < ndn σ := by rw [← cnn X]; exact hk1
        have hk2' : k2 < ndn σ := by rw [← cnn X]; exact hk2
        by_cases c3 : (1 : Int32) ≤ p3 ∧ p3 ≤ (1000 : Int32)
        · have z3 : (1 : Int) ≤ p3.toInt ∧ p3.toInt ≤ (1000 : Int) := ⟨le_i.mp c3.1, le_i.mp c3.2⟩
          by_cases c4 : (1 : Int32) ≤ p4 ∧ p4 ≤ (10000 : Int32)
          · have z4 : (1 : Int) ≤ p4.toInt ∧ p4.toInt ≤ (10000 : Int) := ⟨le_i.mp c4.1, le_i.mp c4.2⟩
            obtain ⟨e1, e2, e3⟩ := eq_request X.1 hk1' hk2' hst z3 z4
            have e4 : mrn μ < 40 → m_mk_ok (pr_up μ 0 6 (0 : Int32)) (nI k1) (nI k2) p3 p4 := by rw [cnr X]; exact e3
            exact LwB.okw hS hM hD hSn (by decide) (by decide) (k_request hl (c_fx_request hl hw hx w hk1' hk2' hst c3.1 c3.2 c4.1 c4.2) x7 ho) (c_mf_request hl mo mm hk1 hk2 hst c3.1 c3.2 c4.1 c4.2 e4) ⟨_, rfl, fun _ => congrArg Int32.toInt64 e2⟩ z6_mf_request (WXof X e1 (tx_request X.1 X.2.1 hk1' hk2' hst z3 z4) (fv_mf_request (by decide) (by decide))) kp_request
          · exact LwB.th hS hM hD hSn (by decide) (by decide) (by decide) ⟨_, rfl, fun z => absurd z (by decide)⟩ (k_request_a hl (t_request_2 hl hw hx a1 b1 a2 b2 c0 c3.1 c3.2 (rng_bad c4).1) x7) (fun T' hT => r_request_2 hl hT mm hk1 hk2 hst c3.1 c3.2 (rng_bad c4).2)
        · exact LwB.th hS hM hD hSn (by decide) (by decide) (by decide) ⟨_, rfl, fun z => absurd z (by decide)⟩ (k_request_a hl (t_request_1 hl hw hx a1 b1 a2 b2 c0 (rng_bad c3).1) x7) (fun T' hT => r_request_1 hl hT mm hk1 hk2 hst (rng_bad c3).2)
    · exact LwB.th hS hM hD hSn (by decide) (by decide) (by decide) ⟨_, rfl, fun z => absurd z (by decide)⟩ (k_request_i hl (t_request_0i hl hw hx (Or.inr ((idx_node X).mpr c2))) x7) (fun T' hT => r_request_0 hl hT mm (Or.inr c2))
  · exact LwB.th hS hM hD hSn (by decide) (by decide) (by decide) ⟨_, rfl, fun z => absurd z (by decide)⟩ (k_request_i hl (t_request_0i hl hw hx (Or.inl ((idx_node X).mpr c1))) x7) (fun T' hT => r_request_0 hl hT mm (Or.inl c1))

theorem S_cancel {g : pr_C} {l : Launch} (hl : l.stackTraces = false) {x : Nat} {T : pr_T} {I : pr_I} {L : pr_L} {p1 : Int32} (h : LI x T I L) : LwB g l x mL_cancel mX8_cancel [.ref x, .int p1, .ref (x + 267)] [.ref (x + 251), .int p1] Pint T I L := by
  obtain ⟨σ, τ, φ, ι, μ, n, hS, hM, hD, hSn⟩ := h
  have X := hD.1
  have w := X.1.1.cr.w
  have mm := X.1.1.cr.m
  have hx := hS.1
  have x7 := hS.1.1
  have hw := hS.2.1
  have hv := hS.2.2.1
  have hf := hS.2.2.2.2.1
  have mo := hS.2.2.2.2.2.2.1
  have ho := hS.2.2.2.2.2.2.2.1
  by_cases c1 : vp_in p1 (mrn μ)
  · have i1 : ¬ (p1 < 0 ∨ ¬ p1 < σ 18 17) := fun q => (idx_req X).mp q c1
    have a1 : ¬ p1 < 0 := fun z => i1 (Or.inl z)
    have b1 : p1 < σ 18 17 := Decidable.byContradiction (fun z => i1 (Or.inr z))
    obtain ⟨k1, hk1, rfl⟩ := idx_k c1 (bnr X)
    have hk1' : k1 < rqn σ := by rw [← cnr X]; exact hk1
    obtain ⟨e1, e2, e3⟩ := eq_cancel X.1 X.2.1 hk1'
    have e4 : ∀ i, i < mtn μ → ((mf_cancel_it45 μ k1 i).1 1 (264 + 28 * k1 + 3)).toInt64 ≠ 0 := fun i hi => cancel_ne X.1 X.2.1 hk1' (by rw [← cnt X]; exact hi)
    exact LwB.okw hS hM hD hSn (by decide) (by decide) (k_cancel hl (c_fx_cancel hl hw hx w hk1') x7 ho) (c_mf_cancel hl mo mm hk1 e4) ⟨_, rfl, fun _ => congrArg Int32.toInt64 e3⟩ z6_mf_cancel (WXof X e1 e2 (fv_mf_cancel (by decide) (fun m hm => by cases hm))) kp_cancel
  · exact LwB.th hS hM hD hSn (by decide) (by decide) (by decide) ⟨_, rfl, fun z => absurd z (by decide)⟩ (k_cancel_i hl (t_cancel_0 hl hw hx ((idx_req X).mpr c1)) x7) (fun T' hT => r_cancel_0 hl hT mm c1)

theorem S_extend {g : pr_C} {l : Launch} (hl : l.stackTraces = false) {x : Nat} {T : pr_T} {I : pr_I} {L : pr_L} {p1 : Int32} (h : LI x T I L) : LwB g l x mL_extend mX8_extend [.ref x, .int p1, .ref (x + 267)] [.ref (x + 251), .int p1] Pint T I L := by
  obtain ⟨σ, τ, φ, ι, μ, n, hS, hM, hD, hSn⟩ := h
  have X := hD.1
  have w := X.1.1.cr.w
  have mm := X.1.1.cr.m
  have hx := hS.1
  have x7 := hS.1.1
  have hw := hS.2.1
  have hv := hS.2.2.1
  have hf := hS.2.2.2.2.1
  have mo := hS.2.2.2.2.2.2.1
  have ho := hS.2.2.2.2.2.2.2.1
  by_cases c1 : vp_in p1 (mrn μ)
  · have i1 : ¬ (p1 < 0 ∨ ¬ p1 < σ 18 17) := fun q => (idx_req X).mp q c1
    have a1 : ¬ p1 < 0 := fun z => i1 (Or.inl z)
    have b1 : p1 < σ 18 17 := Decidable.byContradiction (fun z => i1 (Or.inr z))
    obtain ⟨k1, hk1, rfl⟩ := idx_k c1 (bnr X)
    have hk1' : k1 < rqn σ := by rw [← cnr X]; exact hk1
    obtain ⟨e1, e2⟩ := eq_extend X.1 (k := k1)
    exact LwB.okw hS hM hD hSn (by decide) (by decide) (k_extend hl (c_fx_extend hl hw hx w hk1') x7 ho) (c_mf_extend hl mo mm hk1) ⟨_, rfl, fun _ => congrArg Int32.toInt64 e2⟩ z6_mf_extend (WXof X e1 (tx_extend X.2.1) (fv_mf_extend (by decide) (fun m hm => by cases hm))) kp_extend
  · exact LwB.th hS hM hD hSn (by decide) (by decide) (by decide) ⟨_, rfl, fun z => absurd z (by decide)⟩ (k_extend_i hl (t_extend_0 hl hw hx ((idx_req X).mpr c1)) x7) (fun T' hT => r_extend_0 hl hT mm c1)

theorem S_advance {g : pr_C} {l : Launch} (hl : l.stackTraces = false) {x : Nat} {T : pr_T} {I : pr_I} {L : pr_L} {p1 : Int32} (h : LI x T I L) : LwB g l x mL_advance mX8_advance [.ref x, .int p1, .ref (x + 267)] [.ref (x + 251), .int p1] Pint T I L := by
  obtain ⟨σ, τ, φ, ι, μ, n, hS, hM, hD, hSn⟩ := h
  have X := hD.1
  have w := X.1.1.cr.w
  have mm := X.1.1.cr.m
  have hx := hS.1
  have x7 := hS.1.1
  have hw := hS.2.1
  have hv := hS.2.2.1
  have hf := hS.2.2.2.2.1
  have mo := hS.2.2.2.2.2.2.1
  have ho := hS.2.2.2.2.2.2.2.1
  by_cases c1 : (1 : Int32) ≤ p1 ∧ p1 ≤ (1000 : Int32)
  · have z1 : (1 : Int) ≤ p1.toInt ∧ p1.toInt ≤ (1000 : Int) := ⟨le_i.mp c1.1, le_i.mp c1.2⟩
    have z0 : 0 ≤ p1.toInt := by omega
    have z9 : p1.toInt ≤ 2000 := by omega
    obtain ⟨e1, e2, e3, e4⟩ := eq_advance X.1 z0 z9 X.2.2
    have e5 : (μ 1 0) + p1 ≤ (1000000 : Int32) → m_gn_ok (pr_up μ 0 6 (0 : Int32)) p1 := by rw [← show σ 0 7 = μ 1 0 from X.1.1.cr.rc.g (j := 0) (by decide)]; exact e3
    exact LwB.okw hS hM hD hSn (by decide) (by decide) (k_advance hl (c_fx_advance hl hw hx w c1.1 c1.2) x7 ho) (c_mf_advance hl mo mm c1.1 c1.2 e5) ⟨_, rfl, fun _ => congrArg Int32.toInt64 e2⟩ z6_mf_advance ⟨e1, tx_advance X.1 X.2.1 z0 z9 X.2.2, e4⟩ kp_advance
  · exact LwB.th hS hM hD hSn (by decide) (by decide) (by decide) ⟨_, rfl, fun z => absurd z (by decide)⟩ (k_advance_a hl (t_advance_0 hl hw hx (rng_bad c1).1) x7) (fun T' hT => r_advance_0 hl hT mm (rng_bad c1).2)

theorem S_cheapest {g : pr_C} {l : Launch} (hl : l.stackTraces = false) {x : Nat} {T : pr_T} {I : pr_I} {L : pr_L} {p1 p2 p3 : Int32} (h : LI x T I L) : LwB g l x mL_cheapest mX8_cheapest [.ref x, .int p1, .int p2, .int p3, .ref (x + 267)] [.ref (x + 251), .int p1, .int p2, .int p3] Pint T I L := by
  obtain ⟨σ, τ, φ, ι, μ, n, hS, hM, hD, hSn⟩ := h
  have X := hD.1
  have w := X.1.1.cr.w
  have mm := X.1.1.cr.m
  have hx := hS.1
  have x7 := hS.1.1
  have hw := hS.2.1
  have hv := hS.2.2.1
  have hf := hS.2.2.2.2.1
  have mo := hS.2.2.2.2.2.2.1
  have ho := hS.2.2.2.2.2.2.2.1
  by_cases c1 : vp_in p1 (mnn μ)
  · by_cases c2 : vp_in p2 (mnn μ)
    · have i1 : ¬ (p1 < 0 ∨ ¬ p1 < σ 0 6) := fun q => (idx_node X).mp q c1
      have a1 : ¬ p1 < 0 := fun z => i1 (Or.inl z)
      have b1 : p1 < σ 0 6 := Decidable.byContradiction (fun z => i1 (Or.inr z))
      have i2 : ¬ (p2 < 0 ∨ ¬ p2 < σ 0 6) := fun q => (idx_node X).mp q c2
      have a2 : ¬ p2 < 0 := fun z => i2 (Or.inl z)
      have b2 : p2 < σ 0 6 := Decidable.byContradiction (fun z => i2 (Or.inr z))
      by_cases c0 : p1 = p2
      · exact LwB.th hS hM hD hSn (by decide) (by decide) (by decide) ⟨_, rfl, fun z => absurd z (by decide)⟩ (k_cheapest_a hl (t_cheapest_0p hl hw hx a1 b1 a2 b2 c0) x7) (fun T' hT => r_cheapest_0e hl hT mm c1 c0)
      · obtain ⟨k1, hk1, rfl⟩ := idx_k c1 (bnn X)
        obtain ⟨k2, hk2, rfl⟩ := idx_k c2 (bnn X)
        have hst : k1 ≠ k2 := fun z => c0 (by rw [z])
        have hk1' : k1 < ndn σ := by rw [← cnn X]; exact hk1
        have hk2' : k2 < ndn σ := by rw [← cnn X]; exact hk2
        by_cases c3 : (0 : Int32) ≤ p3 ∧ p3 ≤ (1000 : Int32)
        · have z3 : (0 : Int) ≤ p3.toInt ∧ p3.toInt ≤ (1000 : Int) := ⟨le_i.mp c3.1, le_i.mp c3.2⟩
          exact LwB.okw hS hM hD hSn (by decide) (by decide) (k_cheapest hl (c_fx_cheapest hl hw hx w hk1' hk2' hst c3.1 c3.2) x7 ho) (c_mf_cheapest hl mo mm hk1 hk2 hst c3.1 c3.2 (find_wide X.1 hk1' hk2').1) ⟨_, rfl, fun _ => congrArg Int32.toInt64 (eq_cheapest X.1 hk1' hk2' hst)⟩ z6_mf_cheapest (WXof X (wt_fp X.1 X.2.1 hk1').1 (wt_fp X.1 X.2.1 hk1').2 ((congrFun (fr_m_fi (by decide)) 0).trans (pr_upv (by decide)))) kp_cheapest
        · exact LwB.th hS hM hD hSn (by decide) (by decide) (by decide) ⟨_, rfl, fun z => absurd z (by decide)⟩ (k_cheapest_a hl (t_cheapest_0r hl hw hx a1 b1 a2 b2 c0 (rng_bad c3).1) x7) (fun T' hT => r_cheapest_0u hl hT mm hk1 hk2 hst (rng_bad c3).2)
    · exact LwB.th hS hM hD hSn (by decide) (by decide) (by decide) ⟨_, rfl, fun z => absurd z (by decide)⟩ (k_cheapest_i hl (t_cheapest_0i hl hw hx (Or.inr ((idx_node X).mpr c2))) x7) (fun T' hT => r_cheapest_0 hl hT mm (Or.inr c2))
  · exact LwB.th hS hM hD hSn (by decide) (by decide) (by decide) ⟨_, rfl, fun z => absurd z (by decide)⟩ (k_cheapest_i hl (t_cheapest_0i hl hw hx (Or.inl ((idx_node X).mpr c1))) x7) (fun T' hT => r_cheapest_0 hl hT mm (Or.inl c1))

theorem S_roundTrip {g : pr_C} {l : Launch} (hl : l.stackTraces = false) {x : Nat} {T : pr_T} {I : pr_I} {L : pr_L} {p1 p2 p3 : Int32} (h : LI x T I L) : LwB g l x mL_roundTrip mX8_roundTrip [.ref x, .int p1, .int p2, .int p3, .ref (x + 267)] [.ref (x + 251), .int p1, .int p2, .int p3] Pint T I L := by
  obtain ⟨σ, τ, φ, ι, μ, n, hS, hM, hD, hSn⟩ := h
  have X := hD.1
  have w := X.1.1.cr.w
  have mm := X.1.1.cr.m
  have hx := hS.1
  have x7 := hS.1.1
  have hw := hS.2.1
  have hv := hS.2.2.1
  have hf := hS.2.2.2.2.1
  have mo := hS.2.2.2.2.2.2.1
  have ho := hS.2.2.2.2.2.2.2.1
  by_cases c1 : vp_in p1 (mnn μ)
  · by_cases c2 : vp_in p2 (mnn μ)
    · have i1 : ¬ (p1 < 0 ∨ ¬ p1 < σ 0 6) := fun q => (idx_node X).mp q c1
      have a1 : ¬ p1 < 0 := fun z => i1 (Or.inl z)
      have b1 : p1 < σ 0 6 := Decidable.byContradiction (fun z => i1 (Or.inr z))
      have i2 : ¬ (p2 < 0 ∨ ¬ p2 < σ 0 6) := fun q => (idx_node X).mp q c2
      have a2 : ¬ p2 < 0 := fun z => i2 (Or.inl z)
      have b2 : p2 < σ 0 6 := Decidable.byContradiction (fun z => i2 (Or.inr z))
      by_cases c0 : p1 = p2
      · exact LwB.th hS hM hD hSn (by decide) (by decide) (by decide) ⟨_, rfl, fun z => absurd z (by decide)⟩ (k_roundTrip_a hl (t_roundTrip_0p hl hw hx a1 b1 a2 b2 c0) x7) (fun T' hT => r_roundTrip_0e hl hT mm c1 c0)
      · obtain ⟨k1, hk1, rfl⟩ := idx_k c1 (bnn X)
        obtain ⟨k2, hk2, rfl⟩ := idx_k c2 (bnn X)
        have hst : k1 ≠ k2 := fun z => c0 (by rw [z])
        have hk1' : k1 < ndn σ := by rw [← cnn X]; exact hk1
        have hk2' : k2 < ndn σ := by rw [← cnn X]; exact hk2
        by_cases c3 : (0 : Int32) ≤ p3 ∧ p3 ≤ (1000 : Int32)
        · have z3 : (0 : Int) ≤ p3.toInt ∧ p3.toInt ≤ (1000 : Int) := ⟨le_i.mp c3.1, le_i.mp c3.2⟩
          exact LwB.okw hS hM hD hSn (by decide) (by decide) (k_roundTrip hl (c_fx_roundTrip hl hw hx w hk1' hk2' hst c3.1 c3.2) x7 ho) (c_mf_roundTrip hl mo mm hk1 hk2 hst c3.1 c3.2 (find_wide X.1 hk1' hk2').1) ⟨_, rfl, fun _ => congrArg Int32.toInt64 (eq_roundTrip X.1 hk1' hk2' hst)⟩ z6_mf_roundTrip (WXof X (wt_fp X.1 X.2.1 hk1').1 (wt_fp X.1 X.2.1 hk1').2 ((congrFun (fr_m_fi (by decide)) 0).trans (pr_upv (by decide)))) kp_roundTrip
        · exact LwB.th hS hM hD hSn (by decide) (by decide) (by decide) ⟨_, rfl, fun z => absurd z (by decide)⟩ (k_roundTrip_a hl (t_roundTrip_0r hl hw hx a1 b1 a2 b2 c0 (rng_bad c3).1) x7) (fun T' hT => r_roundTrip_0u hl hT mm hk1 hk2 hst (rng_bad c3).2)
    · exact LwB.th hS hM hD hSn (by decide) (by decide) (by decide) ⟨_, rfl, fun z => absurd z (by decide)⟩ (k_roundTrip_i hl (t_roundTrip_0i hl hw hx (Or.inr ((idx_node X).mpr c2))) x7) (fun T' hT => r_roundTrip_0 hl hT mm (Or.inr c2))
  · exact LwB.th hS hM hD hSn (by decide) (by decide) (by decide) ⟨_, rfl, fun z => absurd z (by decide)⟩ (k_roundTrip_i hl (t_roundTrip_0i hl hw hx (Or.inl ((idx_node X).mpr c1))) x7) (fun T' hT => r_roundTrip_0 hl hT mm (Or.inl c1))

theorem S_cheapestLink {g : pr_C} {l : Launch} (hl : l.stackTraces = false) {x : Nat} {T : pr_T} {I : pr_I} {L : pr_L} {p1 p2 p3 p4 : Int32} (h : LI x T I L) : LwB g l x mL_cheapestLink mX8_cheapestLink [.ref x, .int p1, .int p2, .int p3, .int p4, .ref (x + 267)] [.ref (x + 251), .int p1, .int p2, .int p3, .int p4] Pint T I L := by
  obtain ⟨σ, τ, φ, ι, μ, n, hS, hM, hD, hSn⟩ := h
  have X := hD.1
  have w := X.1.1.cr.w
  have mm := X.1.1.cr.m
  have hx := hS.1
  have x7 := hS.1.1
  have hw := hS.2.1
  have hv := hS.2.2.1
  have hf := hS.2.2.2.2.1
  have mo := hS.2.2.2.2.2.2.1
  have ho := hS.2.2.2.2.2.2.2.1
  by_cases c1 : vp_in p1 (mnn μ)
  · by_cases c2 : vp_in p2 (mnn μ)
    · have i1 : ¬ (p1 < 0 ∨ ¬ p1 < σ 0 6) := fun q => (idx_node X).mp q c1
      have a1 : ¬ p1 < 0 := fun z => i1 (Or.inl z)
      have b1 : p1 < σ 0 6 := Decidable.byContradiction (fun z => i1 (Or.inr z))
      have i2 : ¬ (p2 < 0 ∨ ¬ p2 < σ 0 6) := fun q => (idx_node X).mp q c2
      have a2 : ¬ p2 < 0 := fun z => i2 (Or.inl z)
      have b2 : p2 < σ 0 6 := Decidable.byContradiction (fun z => i2 (Or.inr z))
      by_cases c0 : p1 = p2
      · exact LwB.th hS hM hD hSn (by decide) (by decide) (by decide) ⟨_, rfl, fun z => absurd z (by decide)⟩ (k_cheapestLink_a hl (t_cheapestLink_0p hl hw hx a1 b1 a2 b2 c0) x7) (fun T' hT => r_cheapestLink_0e hl hT mm c1 c0)
      · obtain ⟨k1, hk1, rfl⟩ := idx_k c1 (bnn X)
        obtain ⟨k2, hk2, rfl⟩ := idx_k c2 (bnn X)
        have hst : k1 ≠ k2 := fun z => c0 (by rw [z])
        have hk1' : k1 < ndn σ := by rw [← cnn X]; exact hk1
        have hk2' : k2 < ndn σ := by rw [← cnn X]; exact hk2
        by_cases c3 : (0 : Int32) ≤ p3 ∧ p3 ≤ (1000 : Int32)
        · have z3 : (0 : Int) ≤ p3.toInt ∧ p3.toInt ≤ (1000 : Int) := ⟨le_i.mp c3.1, le_i.mp c3.2⟩
          exact LwB.okw hS hM hD hSn (by decide) (by decide) (k_cheapestLink hl (c_fx_cheapestLink hl hw hx w hk1' hk2' hst c3.1 c3.2) x7 ho) (c_mf_cheapestLink hl mo mm hk1 hk2 hst c3.1 c3.2 (find_wide X.1 hk1' hk2').1) ⟨_, rfl, fun _ => congrArg Int32.toInt64 (eq_cheapestLink X.1 hk1' hk2' hst)⟩ z6_mf_cheapestLink (by rw [q_cheapestLink]; exact WXof X (wt_fp X.1 X.2.1 hk1').1 (wt_fp X.1 X.2.1 hk1').2 ((congrFun (fr_m_fi (by decide)) 0).trans (pr_upv (by decide)))) kp_cheapestLink
        · exact LwB.th hS hM hD hSn (by decide) (by decide) (by decide) ⟨_, rfl, fun z => absurd z (by decide)⟩ (k_cheapestLink_a hl (t_cheapestLink_0r hl hw hx a1 b1 a2 b2 c0 (rng_bad c3).1) x7) (fun T' hT => r_cheapestLink_0u hl hT mm hk1 hk2 hst (rng_bad c3).2)
    · exact LwB.th hS hM hD hSn (by decide) (by decide) (by decide) ⟨_, rfl, fun z => absurd z (by decide)⟩ (k_cheapestLink_i hl (t_cheapestLink_0i hl hw hx (Or.inr ((idx_node X).mpr c2))) x7) (fun T' hT => r_cheapestLink_0 hl hT mm (Or.inr c2))
  · exact LwB.th hS hM hD hSn (by decide) (by decide) (by decide) ⟨_, rfl, fun z => absurd z (by decide)⟩ (k_cheapestLink_i hl (t_cheapestLink_0i hl hw hx (Or.inl ((idx_node X).mpr c1))) x7) (fun T' hT => r_cheapestLink_0 hl hT mm (Or.inl c1))

theorem S_neededHold {g : pr_C} {l : Launch} (hl : l.stackTraces = false) {x : Nat} {T : pr_T} {I : pr_I} {L : pr_L} {p1 p2 p3 : Int32} (h : LI x T I L) : LwB g l x mL_neededHold mX8_neededHold [.ref x, .int p1, .int p2, .int p3, .ref (x + 267)] [.ref (x + 251), .int p1, .int p2, .int p3] Pint T I L := by
  obtain ⟨σ, τ, φ, ι, μ, n, hS, hM, hD, hSn⟩ := h
  have X := hD.1
  have w := X.1.1.cr.w
  have mm := X.1.1.cr.m
  have hx := hS.1
  have x7 := hS.1.1
  have hw := hS.2.1
  have hv := hS.2.2.1
  have hf := hS.2.2.2.2.1
  have mo := hS.2.2.2.2.2.2.1
  have ho := hS.2.2.2.2.2.2.2.1
  by_cases c1 : vp_in p1 (mnn μ)
  · by_cases c2 : vp_in p2 (mnn μ)
    · have i1 : ¬ (p1 < 0 ∨ ¬ p1 < σ 0 6) := fun q => (idx_node X).mp q c1
      have a1 : ¬ p1 < 0 := fun z => i1 (Or.inl z)
      have b1 : p1 < σ 0 6 := Decidable.byContradiction (fun z => i1 (Or.inr z))
      have i2 : ¬ (p2 < 0 ∨ ¬ p2 < σ 0 6) := fun q => (idx_node X).mp q c2
      have a2 : ¬ p2 < 0 := fun z => i2 (Or.inl z)
      have b2 : p2 < σ 0 6 := Decidable.byContradiction (fun z => i2 (Or.inr z))
      by_cases c0 : p1 = p2
      · exact LwB.th hS hM hD hSn (by decide) (by decide) (by decide) ⟨_, rfl, fun z => absurd z (by decide)⟩ (k_neededHold_a hl (t_neededHold_0p hl hw hx a1 b1 a2 b2 c0) x7) (fun T' hT => r_neededHold_0e hl hT mm c1 c0)
      · obtain ⟨k1, hk1, rfl⟩ := idx_k c1 (bnn X)
        obtain ⟨k2, hk2, rfl⟩ := idx_k c2 (bnn X)
        have hst : k1 ≠ k2 := fun z => c0 (by rw [z])
        have hk1' : k1 < ndn σ := by rw [← cnn X]; exact hk1
        have hk2' : k2 < ndn σ := by rw [← cnn X]; exact hk2
        by_cases c3 : (0 : Int32) ≤ p3 ∧ p3 ≤ (1000 : Int32)
        · have z3 : (0 : Int) ≤ p3.toInt ∧ p3.toInt ≤ (1000 : Int) := ⟨le_i.mp c3.1, le_i.mp c3.2⟩
          exact LwB.okw hS hM hD hSn (by decide) (by decide) (k_neededHold hl (c_fx_neededHold hl hw hx w hk1' hk2' hst c3.1 c3.2) x7 ho) (c_mf_neededHold hl mo mm hk1 hk2 hst c3.1 c3.2 (find_wide X.1 hk1' hk2').1) ⟨_, rfl, fun _ => congrArg Int32.toInt64 (eq_neededHold X.1 hk1' hk2' hst)⟩ z6_mf_neededHold (by rw [q_neededHold]; exact WXof X (wt_fp X.1 X.2.1 hk1').1 (wt_fp X.1 X.2.1 hk1').2 ((congrFun (fr_m_fi (by decide)) 0).trans (pr_upv (by decide)))) kp_neededHold
        · exact LwB.th hS hM hD hSn (by decide) (by decide) (by decide) ⟨_, rfl, fun z => absurd z (by decide)⟩ (k_neededHold_a hl (t_neededHold_0r hl hw hx a1 b1 a2 b2 c0 (rng_bad c3).1) x7) (fun T' hT => r_neededHold_0u hl hT mm hk1 hk2 hst (rng_bad c3).2)
    · exact LwB.th hS hM hD hSn (by decide) (by decide) (by decide) ⟨_, rfl, fun z => absurd z (by decide)⟩ (k_neededHold_i hl (t_neededHold_0i hl hw hx (Or.inr ((idx_node X).mpr c2))) x7) (fun T' hT => r_neededHold_0 hl hT mm (Or.inr c2))
  · exact LwB.th hS hM hD hSn (by decide) (by decide) (by decide) ⟨_, rfl, fun z => absurd z (by decide)⟩ (k_neededHold_i hl (t_neededHold_0i hl hw hx (Or.inl ((idx_node X).mpr c1))) x7) (fun T' hT => r_neededHold_0 hl hT mm (Or.inl c1))
