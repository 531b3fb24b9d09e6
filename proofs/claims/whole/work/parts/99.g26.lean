/-! A CALL ON BOTH SIDES, part 3 -/
theorem S_widest {g : pr_C} {l : Launch} (hl : l.stackTraces = false) {x : Nat} {T : pr_T} {I : pr_I} {L : pr_L} {p1 p2 : Int32} (h : LI x T I L) : LwB g l x mL_widest mX8_widest [.ref x, .int p1, .int p2, .ref (x + 267)] [.ref (x + 251), .int p1, .int p2] Pint T I L := by
  obtain ⟨σ, τ, φ, ι, μ, n, hS, hM, hD, hSn⟩ := h
  have X := hD.1
  have w := X.1.1.cr.w
  have mm := X.1.1.cr.m
  have hx := hS.1
  have x7 := hS.1.1
  have hw := hS.2.1
  have hv := hS.2.2.1
  have hf := hS.2.2.2.2.1
  have mo := hS.2.2.2.2.2.2.1
  have ho := hS.2.2.2.2.2.2.2.1
  by_cases c1 : vp_in p1 (mnn μ)
  · by_cases c2 : vp_in p2 (mnn μ)
    · have i1 : ¬ (p1 < 0 ∨ ¬ p1 < σ 0 6) := fun q => (idx_node X).mp q c1
      have a1 : ¬ p1 < 0 := fun z => i1 (Or.inl z)
      have b1 : p1 < σ 0 6 := Decidable.byContradiction (fun z => i1 (Or.inr z))
      have i2 : ¬ (p2 < 0 ∨ ¬ p2 < σ 0 6) := fun q => (idx_node X).mp q c2
      have a2 : ¬ p2 < 0 := fun z => i2 (Or.inl z)
      have b2 : p2 < σ 0 6 := Decidable.byContradiction (fun z => i2 (Or.inr z))
      by_cases c0 : p1 = p2
      · exact LwB.th hS hM hD hSn (by decide) (by decide) (by decide) ⟨_, rfl, fun z => absurd z (by decide)⟩ (k_widest_a hl (t_widest_0p hl hw hx a1 b1 a2 b2 c0) x7) (fun T' hT => r_widest_0e hl hT mm c1 c0)
      · obtain ⟨k1, hk1, rfl⟩ := idx_k c1 (bnn X)
        obtain ⟨k2, hk2, rfl⟩ := idx_k c2 (bnn X)
        have hst : k1 ≠ k2 := fun z => c0 (by rw [z])
        have hk1' : k1 < ndn σ := by rw [← cnn X]; exact hk1
        have hk2' : k2 < ndn σ := by rw [← cnn X]; exact hk2
        obtain ⟨e1, e2, e3⟩ := eq_widest X.1 hk1' hk2' hst
        exact LwB.okw hS hM hD hSn (by decide) (by decide) (k_widest hl (c_fx_widest hl hw hx w hk1' hk2' hst) x7 ho) (c_mf_widest hl mo mm hk1 hk2 hst e2) ⟨_, rfl, fun _ => congrArg Int32.toInt64 e1⟩ z6_mf_widest ⟨e3, X.2⟩ kp_widest
    · exact LwB.th hS hM hD hSn (by decide) (by decide) (by decide) ⟨_, rfl, fun z => absurd z (by decide)⟩ (k_widest_i hl (t_widest_0i hl hw hx (Or.inr ((idx_node X).mpr c2))) x7) (fun T' hT => r_widest_0 hl hT mm (Or.inr c2))
  · exact LwB.th hS hM hD hSn (by decide) (by decide) (by decide) ⟨_, rfl, fun z => absurd z (by decide)⟩ (k_widest_i hl (t_widest_0i hl hw hx (Or.inl ((idx_node X).mpr c1))) x7) (fun T' hT => r_widest_0 hl hT mm (Or.inl c1))

theorem S_criticalLinks {g : pr_C} {l : Launch} (hl : l.stackTraces = false) {x : Nat} {T : pr_T} {I : pr_I} {L : pr_L} {p1 p2 p3 : Int32} (h : LI x T I L) : LwB g l x mL_criticalLinks mX8_criticalLinks [.ref x, .int p1, .int p2, .int p3, .ref (x + 267)] [.ref (x + 251), .int p1, .int p2, .int p3] Pint T I L := by
  obtain ⟨σ, τ, φ, ι, μ, n, hS, hM, hD, hSn⟩ := h
  have X := hD.1
  have w := X.1.1.cr.w
  have mm := X.1.1.cr.m
  have hx := hS.1
  have x7 := hS.1.1
  have hw := hS.2.1
  have hv := hS.2.2.1
  have hf := hS.2.2.2.2.1
  have mo := hS.2.2.2.2.2.2.1
  have ho := hS.2.2.2.2.2.2.2.1
  by_cases c1 : vp_in p1 (mnn μ)
  · by_cases c2 : vp_in p2 (mnn μ)
    · have i1 : ¬ (p1 < 0 ∨ ¬ p1 < σ 0 6) := fun q => (idx_node X).mp q c1
      have a1 : ¬ p1 < 0 := fun z => i1 (Or.inl z)
      have b1 : p1 < σ 0 6 := Decidable.byContradiction (fun z => i1 (Or.inr z))
      have i2 : ¬ (p2 < 0 ∨ ¬ p2 < σ 0 6) := fun q => (idx_node X).mp q c2
      have a2 : ¬ p2 < 0 := fun z => i2 (Or.inl z)
      have b2 : p2 < σ 0 6 := Decidable.byContradiction (fun z => i2 (Or.inr z))
      by_cases c0 : p1 = p2
      · exact LwB.th hS hM hD hSn (by decide) (by decide) (by decide) ⟨_, rfl, fun z => absurd z (by decide)⟩ (k_criticalLinks_a hl (t_criticalLinks_0p hl hw hx a1 b1 a2 b2 c0) x7) (fun T' hT => r_criticalLinks_0e hl hT mm c1 c0)
      · obtain ⟨k1, hk1, rfl⟩ := idx_k c1 (bnn X)
        obtain ⟨k2, hk2, rfl⟩ := idx_k c2 (bnn X)
        have hst : k1 ≠ k2 := fun z => c0 (by rw [z])
        have hk1' : k1 < ndn σ := by rw [← cnn X]; exact hk1
        have hk2' : k2 < ndn σ := by rw [← cnn X]; exact hk2
        by_cases c3 : (0 : Int32) ≤ p3 ∧ p3 ≤ (1000 : Int32)
        · have z3 : (0 : Int) ≤ p3.toInt ∧ p3.toInt ≤ (1000 : Int) := ⟨le_i.mp c3.1, le_i.mp c3.2⟩
          obtain ⟨e1, e2, e3, e4⟩ := eq_criticalLinks X.1 (u := p3) hk1' hk2'
          exact LwB.okw hS hM hD hSn (by decide) (by decide) (k_criticalLinks hl (c_fx_criticalLinks hl hw hx w hk1' hk2' hst c3.1 c3.2) x7 ho) (c_mf_criticalLinks hl mo mm hk1 hk2 hst c3.1 c3.2 e2 e3) ⟨_, rfl, fun _ => congrArg Int32.toInt64 e1⟩ z6_mf_criticalLinks ⟨e4, X.2⟩ kp_criticalLinks
        · exact LwB.th hS hM hD hSn (by decide) (by decide) (by decide) ⟨_, rfl, fun z => absurd z (by decide)⟩ (k_criticalLinks_a hl (t_criticalLinks_1 hl hw hx a1 b1 a2 b2 c0 (rng_bad c3).1) x7) (fun T' hT => r_criticalLinks_0u hl hT mm hk1 hk2 hst (rng_bad c3).2)
    · exact LwB.th hS hM hD hSn (by decide) (by decide) (by decide) ⟨_, rfl, fun z => absurd z (by decide)⟩ (k_criticalLinks_i hl (t_criticalLinks_0i hl hw hx (Or.inr ((idx_node X).mpr c2))) x7) (fun T' hT => r_criticalLinks_0 hl hT mm (Or.inr c2))
  · exact LwB.th hS hM hD hSn (by decide) (by decide) (by decide) ⟨_, rfl, fun z => absurd z (by decide)⟩ (k_criticalLinks_i hl (t_criticalLinks_0i hl hw hx (Or.inl ((idx_node X).mpr c1))) x7) (fun T' hT => r_criticalLinks_0 hl hT mm (Or.inl c1))

theorem S_greatestFlow {g : pr_C} {l : Launch} (hl : l.stackTraces = false) {x : Nat} {T : pr_T} {I : pr_I} {L : pr_L} {p1 p2 : Int32} (h : LI x T I L) : LwB g l x mL_greatestFlow mX8_greatestFlow [.ref x, .int p1, .int p2, .ref (x + 267)] [.ref (x + 251), .int p1, .int p2] Pint T I L := by
  obtain ⟨σ, τ, φ, ι, μ, n, hS, hM, hD, hSn⟩ := h
  have X := hD.1
  have w := X.1.1.cr.w
  have mm := X.1.1.cr.m
  have hx := hS.1
  have x7 := hS.1.1
  have hw := hS.2.1
  have hv := hS.2.2.1
  have hf := hS.2.2.2.2.1
  have mo := hS.2.2.2.2.2.2.1
  have ho := hS.2.2.2.2.2.2.2.1
  by_cases c1 : vp_in p1 (mnn μ)
  · by_cases c2 : vp_in p2 (mnn μ)
    · have i1 : ¬ (p1 < 0 ∨ ¬ p1 < σ 0 6) := fun q => (idx_node X).mp q c1
      have a1 : ¬ p1 < 0 := fun z => i1 (Or.inl z)
      have b1 : p1 < σ 0 6 := Decidable.byContradiction (fun z => i1 (Or.inr z))
      have i2 : ¬ (p2 < 0 ∨ ¬ p2 < σ 0 6) := fun q => (idx_node X).mp q c2
      have a2 : ¬ p2 < 0 := fun z => i2 (Or.inl z)
      have b2 : p2 < σ 0 6 := Decidable.byContradiction (fun z => i2 (Or.inr z))
      by_cases c0 : p1 = p2
      · exact LwB.th hS hM hD hSn (by decide) (by decide) (by decide) ⟨_, rfl, fun z => absurd z (by decide)⟩ (k_greatestFlow_a hl (t_greatestFlow_0p hl hw hx a1 b1 a2 b2 c0) x7) (fun T' hT => r_greatestFlow_0e hl hT mm c1 c0)
      · obtain ⟨k1, hk1, rfl⟩ := idx_k c1 (bnn X)
        obtain ⟨k2, hk2, rfl⟩ := idx_k c2 (bnn X)
        have hst : k1 ≠ k2 := fun z => c0 (by rw [z])
        have hk1' : k1 < ndn σ := by rw [← cnn X]; exact hk1
        have hk2' : k2 < ndn σ := by rw [← cnn X]; exact hk2
        obtain ⟨e1, e2, e3⟩ := eq_greatestFlow (φ := φ) X.1 X.2.1 hk1' hk2' hst
        exact LwB.okf hS hM hD hSn (by decide) (by decide) (k_greatestFlow hl (c_fx_greatestFlow hl hf hx hw (Or.inr (by omega)) hD.2.2.2.2.1 w hk1' hk2' hst) x7 ho) (fun L1 => c_mf_greatestFlow hl mo mm hk1 hk2 hst e2) ⟨_, rfl, fun _ => congrArg Int32.toInt64 e1⟩ z6_mf_greatestFlow ⟨e3, X.2⟩ kp_greatestFlow (flI_greatestFlow hD.2.2.2.2.1 w hk1')
    · exact LwB.th hS hM hD hSn (by decide) (by decide) (by decide) ⟨_, rfl, fun z => absurd z (by decide)⟩ (k_greatestFlow_i hl (t_greatestFlow_0i hl hw hx (Or.inr ((idx_node X).mpr c2))) x7) (fun T' hT => r_greatestFlow_0 hl hT mm (Or.inr c2))
  · exact LwB.th hS hM hD hSn (by decide) (by decide) (by decide) ⟨_, rfl, fun z => absurd z (by decide)⟩ (k_greatestFlow_i hl (t_greatestFlow_0i hl hw hx (Or.inl ((idx_node X).mpr c1))) x7) (fun T' hT => r_greatestFlow_0 hl hT mm (Or.inl c1))

theorem S_smallestCut {g : pr_C} {l : Launch} (hl : l.stackTraces = false) {x : Nat} {T : pr_T} {I : pr_I} {L : pr_L} {p1 p2 : Int32} (h : LI x T I L) : LwB g l x mL_smallestCut mX8_smallestCut [.ref x, .int p1, .int p2, .ref (x + 267)] [.ref (x + 251), .int p1, .int p2] Pint T I L := by
  obtain ⟨σ, τ, φ, ι, μ, n, hS, hM, hD, hSn⟩ := h
  have X := hD.1
  have w := X.1.1.cr.w
  have mm := X.1.1.cr.m
  have hx := hS.1
  have x7 := hS.1.1
  have hw := hS.2.1
  have hv := hS.2.2.1
  have hf := hS.2.2.2.2.1
  have mo := hS.2.2.2.2.2.2.1
  have ho := hS.2.2.2.2.2.2.2.1
  by_cases c1 : vp_in p1 (mnn μ)
  · by_cases c2 : vp_in p2 (mnn μ)
    · have i1 : ¬ (p1 < 0 ∨ ¬ p1 < σ 0 6) := fun q => (idx_node X).mp q c1
      have a1 : ¬ p1 < 0 := fun z => i1 (Or.inl z)
      have b1 : p1 < σ 0 6 := Decidable.byContradiction (fun z => i1 (Or.inr z))
      have i2 : ¬ (p2 < 0 ∨ ¬ p2 < σ 0 6) := fun q => (idx_node X).mp q c2
      have a2 : ¬ p2 < 0 := fun z => i2 (Or.inl z)
      have b2 : p2 < σ 0 6 := Decidable.byContradiction (fun z => i2 (Or.inr z))
      by_cases c0 : p1 = p2
      · exact LwB.th hS hM hD hSn (by decide) (by decide) (by decide) ⟨_, rfl, fun z => absurd z (by decide)⟩ (k_smallestCut_a hl (t_smallestCut_0p hl hw hx a1 b1 a2 b2 c0) x7) (fun T' hT => r_smallestCut_0e hl hT mm c1 c0)
      · obtain ⟨k1, hk1, rfl⟩ := idx_k c1 (bnn X)
        obtain ⟨k2, hk2, rfl⟩ := idx_k c2 (bnn X)
        have hst : k1 ≠ k2 := fun z => c0 (by rw [z])
        have hk1' : k1 < ndn σ := by rw [← cnn X]; exact hk1
        have hk2' : k2 < ndn σ := by rw [← cnn X]; exact hk2
        obtain ⟨e1, e2, e3⟩ := eq_smallestCut (φ := φ) X.1 X.2.1 hk1' hk2' hst
        exact LwB.okf hS hM hD hSn (by decide) (by decide) (k_smallestCut hl (c_fx_smallestCut hl hf hx hw (Or.inr (by omega)) hD.2.2.2.2.1 w hk1' hk2' hst) x7 ho) (fun L1 => c_mf_smallestCut hl mo mm hk1 hk2 hst e2) ⟨_, rfl, fun _ => congrArg Int32.toInt64 e1⟩ z6_mf_smallestCut ⟨e3, X.2⟩ kp_smallestCut (flI_smallestCut hD.2.2.2.2.1 w hk1')
    · exact LwB.th hS hM hD hSn (by decide) (by decide) (by decide) ⟨_, rfl, fun z => absurd z (by decide)⟩ (k_smallestCut_i hl (t_smallestCut_0i hl hw hx (Or.inr ((idx_node X).mpr c2))) x7) (fun T' hT => r_smallestCut_0 hl hT mm (Or.inr c2))
  · exact LwB.th hS hM hD hSn (by decide) (by decide) (by decide) ⟨_, rfl, fun z => absurd z (by decide)⟩ (k_smallestCut_i hl (t_smallestCut_0i hl hw hx (Or.inl ((idx_node X).mpr c1))) x7) (fun T' hT => r_smallestCut_0 hl hT mm (Or.inl c1))

theorem S_disjointPaths {g : pr_C} {l : Launch} (hl : l.stackTraces = false) {x : Nat} {T : pr_T} {I : pr_I} {L : pr_L} {p1 p2 p3 : Int32} (h : LI x T I L) : LwB g l x mL_disjointPaths mX8_disjointPaths [.ref x, .int p1, .int p2, .int p3, .ref (x + 267)] [.ref (x + 251), .int p1, .int p2, .int p3] Pint T I L := by
  obtain ⟨σ, τ, φ, ι, μ, n, hS, hM, hD, hSn⟩ := h
  have X := hD.1
  have w := X.1.1.cr.w
  have mm := X.1.1.cr.m
  have hx := hS.1
  have x7 := hS.1.1
  have hw := hS.2.1
  have hv := hS.2.2.1
  have hf := hS.2.2.2.2.1
  have mo := hS.2.2.2.2.2.2.1
  have ho := hS.2.2.2.2.2.2.2.1
  by_cases c1 : vp_in p1 (mnn μ)
  · by_cases c2 : vp_in p2 (mnn μ)
    · have i1 : ¬ (p1 < 0 ∨ ¬ p1 < σ 0 6) := fun q => (idx_node X).mp q c1
      have a1 : ¬ p1 < 0 := fun z => i1 (Or.inl z)
      have b1 : p1 < σ 0 6 := Decidable.byContradiction (fun z => i1 (Or.inr z))
      have i2 : ¬ (p2 < 0 ∨ ¬ p2 < σ 0 6) := fun q => (idx_node X).mp q c2
      have a2 : ¬ p2 < 0 := fun z => i2 (Or.inl z)
      have b2 : p2 < σ 0 6 := Decidable.byContradiction (fun z => i2 (Or.inr z))
      by_cases c0 : p1 = p2
      · exact LwB.th hS hM hD hSn (by decide) (by decide) (by decide) ⟨_, rfl, fun z => absurd z (by decide)⟩ (k_disjointPaths_a hl (t_disjointPaths_0p hl hw hx a1 b1 a2 b2 c0) x7) (fun T' hT => r_disjointPaths_0e hl hT mm c1 c0)
      · obtain ⟨k1, hk1, rfl⟩ := idx_k c1 (bnn X)
        obtain ⟨k2, hk2, rfl⟩ := idx_k c2 (bnn X)
        have hst : k1 ≠ k2 := fun z => c0 (by rw [z])
        have hk1' : k1 < ndn σ := by rw [← cnn X]; exact hk1
        have hk2' : k2 < ndn σ := by rw [← cnn X]; exact hk2
        by_cases c3 : (0 : Int32) ≤ p3 ∧ p3 ≤ (1000 : Int32)
        · have z3 : (0 : Int) ≤ p3.toInt ∧ p3.toInt ≤ (1000 : Int) := ⟨le_i.mp c3.1, le_i.mp c3.2⟩
          obtain ⟨e1, e2, e3⟩ := eq_disjointPaths (φ := φ) X.1 (u := p3) hk1' hk2' hst
          exact LwB.okf hS hM hD hSn (by decide) (by decide) (k_disjointPaths hl (c_fx_disjointPaths hl hf hx hw (Or.inr (by omega)) hD.2.2.2.2.1 w hk1' hk2' hst c3.1 c3.2) x7 ho) (fun L1 => c_mf_disjointPaths hl mo mm hk1 hk2 hst c3.1 c3.2 e2) ⟨_, rfl, fun _ => congrArg Int32.toInt64 e1⟩ z6_mf_disjointPaths ⟨e3, X.2⟩ kp_disjointPaths (flI_disjointPaths hD.2.2.2.2.1 w hk1')
        · exact LwB.th hS hM hD hSn (by decide) (by decide) (by decide) ⟨_, rfl, fun z => absurd z (by decide)⟩ (k_disjointPaths_a hl (t_disjointPaths_1 hl hw hx a1 b1 a2 b2 c0 (rng_bad c3).1) x7) (fun T' hT => r_disjointPaths_0u hl hT mm hk1 hk2 hst (rng_bad c3).2)
    · exact LwB.th hS hM hD hSn (by decide) (by decide) (by decide) ⟨_, rfl, fun z => absurd z (by decide)⟩ (k_disjointPaths_i hl (t_disjointPaths_0i hl hw hx (Or.inr ((idx_node X).mpr c2))) x7) (fun T' hT => r_disjointPaths_0 hl hT mm (Or.inr c2))
  · exact LwB.th hS hM hD hSn (by decide) (by decide) (by decide) ⟨_, rfl, fun z => absurd z (by decide)⟩ (k_disjointPaths_i hl (t_disjointPaths_0i hl hw hx (Or.inl ((idx_node X).mpr c1))) x7) (fun T' hT => r_disjointPaths_0 hl hT mm (Or.inl c1))
