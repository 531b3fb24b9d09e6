/-! A CHEAPEST WAY ON BOTH SIDES -/
theorem find2 {σ μ : pr_I} {u v s t : Int32} {nl nn : Nat} (B : BL σ μ nl nn) (hu : HU u v nl) (hs : vp_in s nn) (ht : vp_in t nn) (hl : mln μ = nl) (hnn : mnn μ = nn) : m_fi_ok μ s t v ∧ ((pt_find_r σ nl s t u = nI 0 ∧ m_fi_r μ s t v = 0 ∧ m_fi μ s t v 0 17 = nI 0) ∨ ∃ (n : Nat) (ls : Nat → Nat), n ≤ 11 ∧ pt_find_r σ nl s t u = nI n ∧ m_fi_r μ s t v = 1 ∧ m_fi μ s t v 0 17 = nI n ∧ (∀ p, p < n → pt_find σ nl s t u 117 p = nI (ls p) ∧ m_fi μ s t v 10 p = nI (ls p) ∧ ls p < nl) ∧ (∀ p q, p < q → q < n → ls p ≠ ls q) ∧ (n = 0 ↔ s = t)) := by
  have hn := B.2.1
  have hs1 := vp_in_lt hs
  have ht1 := vp_in_lt ht
  have es : s = nI s.toNatClampNeg := vp_nI hs (by omega)
  have et : t = nI t.toNatClampNeg := vp_nI ht (by omega)
  have B0 : BL (pr_up σ 116 1 (0 : Int32)) μ nl nn := by
    unfold BL
    rw [pr_up_ne (show (2 : Nat) ≠ 116 by decide), pr_up_ne (show (3 : Nat) ≠ 116 by decide), pr_up_ne (show (5 : Nat) ≠ 116 by decide)]
    exact B
  have M := meas B0 hu ht hl hnn
  have ef : bf_f (pr_up σ 116 1 (0 : Int32)) = bf_f σ := by funext k; unfold bf_f; rw [pr_upv (by decide)]
  have eg : bf_g (pr_up σ 116 1 (0 : Int32)) = bf_g σ := by funext k; unfold bf_g; rw [pr_upv (by decide)]
  have ew : bf_w (pr_up σ 116 1 (0 : Int32)) = bf_w σ := by funext k; unfold bf_w; rw [pr_upv (by decide)]
  rw [ef, eg, ew] at M
  have fr : ∀ o, o ≠ 118 → pt_meas (pr_up σ 116 1 (0 : Int32)) nl t u o = pr_up σ 116 1 (0 : Int32) o := fun o ho => fr_pt_meas (by simpa using ho)
  have a2 : pt_meas (pr_up σ 116 1 (0 : Int32)) nl t u 2 = σ 2 := (fr 2 (by decide)).trans (pr_up_ne (by decide))
  have a3 : pt_meas (pr_up σ 116 1 (0 : Int32)) nl t u 3 = σ 3 := (fr 3 (by decide)).trans (pr_up_ne (by decide))
  have a5 : pt_meas (pr_up σ 116 1 (0 : Int32)) nl t u 5 = σ 5 := (fr 5 (by decide)).trans (pr_up_ne (by decide))
  have a116 : pt_meas (pr_up σ 116 1 (0 : Int32)) nl t u 116 1 = nI 0 := (congrFun (fr 116 (by decide)) 1).trans pr_upe
  have W : WF σ μ (pt_meas (pr_up σ 116 1 (0 : Int32)) nl t u) (m_lp μ t v) u v t nl nn := ⟨B, hu, M.1, M.2.2.2.1, M.2.2.2.2.1, M.2.2.2.2.2, ht⟩
  have b1 := M.2.1
  have hend := M.2.2.1
  unfold m_fi_ok pt_find_r pt_find m_fi_r m_fi
  rw [sl_eq 11]
  generalize pt_meas (pr_up σ 116 1 (0 : Int32)) nl t u = a at *
  rcases W.2.2.1.at hs1 hn with ⟨q1, q2, q3⟩ | ⟨P, S, q1, q2, q3, q4, q5, q6, _⟩
  · have c1 : a 118 s.toNatClampNeg = (1000000000 : Int32) := q1
    have c2 : m_lp μ t v 8 s.toNatClampNeg = (1000000000 : Int32) := q2
    rw [if_pos c1, if_pos c2, if_pos c2, pr_upe]
    exact ⟨⟨hend, fun z => absurd c2 z, fun z => absurd c2 z, nI_vin (k := 0) (by decide) (by decide)⟩, Or.inl ⟨rfl, rfl, rfl⟩⟩
  · have hF : bf_D a s.toNatClampNeg < 1000000000 := by omega
    have c1 : ¬ a 118 s.toNatClampNeg = (1000000000 : Int32) := fun z => by
      have z2 : nI (16 * P + S) = nI 1000000000 := q1.symm.trans z
      have := (nI_eq (by omega) (by decide)).mp z2
      omega
    have c2 : ¬ m_lp μ t v 8 s.toNatClampNeg = (1000000000 : Int32) := fun z => by
      have z2 : nI P = nI 1000000000 := q2.symm.trans z
      have := (nI_eq (by omega) (by decide)).mp z2
      omega
    have r11 := (W.rest hs1 hF).1
    have RL := rl_end W a2 a3 a5 a116 hs1 hF (S := s)
    rw [← es] at RL
    have IE : ∀ k, bf_D a s.toNatClampNeg % 16 ≤ k → m_fi_it27 μ s t v k = (rst σ a (m_lp μ t v) u nl s.toNatClampNeg (bf_D a s.toNatClampNeg % 16), t) := fun k hk => by
      have := it27_end W rfl b1 hs1 hF hk
      rw [← es] at this; exact this
    have I12 := IE (sl 12) (by rw [sl_eq 12]; omega)
    rw [if_neg c1, if_neg c1, if_neg c2, if_neg c2, show 11 + 1 = 12 from rfl, RL, I12]
    refine ⟨⟨hend, fun _ => ?_, fun _ k hk => ?_, ?_⟩, Or.inr ⟨bf_D a s.toNatClampNeg % 16, fun p => nxl σ a u nl (nd σ a u nl s.toNatClampNeg p), r11, rfl, rfl, rst_len _, fun p hp => ⟨cst_117 _ p hp, rst_10 _ p hp, (W.nt hs1 hF hp).2.1⟩, fun p q h1 h2 => W.dis hs1 hF h1 h2, ?_⟩⟩
    · unfold m_fi_it27_e
      rw [I12]; exact if_pos rfl
    · by_cases z : bf_D a s.toNatClampNeg % 16 ≤ k
      · rw [IE k z] at hk; exact absurd rfl hk
      · obtain ⟨w1, w2, w3, w4⟩ := W.way hs1 hF k (by omega)
        have f := (W.nt hs1 hF (k := k) (by omega)).2
        have e := it27_walk W rfl b1 hs1 hF k (by omega)
        rw [← es] at e
        rw [e]
        exact (scan_e W (b' := rst σ a (m_lp μ t v) u nl s.toNatClampNeg k) ((rst_r (by decide) (by decide) k).trans b1) (rst_r (by decide) (by decide) k) (rst_r (by decide) (by decide) k) w1 w2 f).2
    · show vp_in (rst σ a (m_lp μ t v) u nl s.toNatClampNeg (bf_D a s.toNatClampNeg % 16) 0 17) 12
      rw [rst_len]; exact nI_vin (by omega) (by decide)
    · rw [(W.rest hs1 hF).2]
      constructor
      · intro z; rw [es, et, z]
      · intro z; rw [z]
