section RCH3
variable {σ μ : pr_I}
theorem bit_ext {x y : Int32} (h : ∀ i, i < 32 → bit x i = bit y i) : x = y :=
  Int32.toBitVec_inj.mp (BitVec.eq_of_getLsbD_eq (fun i hi => h i hi))
theorem re82_b {μ1 : pr_I} {nn s k i : Nat} {u x : Int32} (B : BL σ μ (mln μ) nn) (hi : i < 32) : ∀ j, j ≤ mln μ → (bit x i = true → bit (mf_reachable_it82 μ μ1 s u k x j) i = true) ∧ (nn ≤ i → bit (mf_reachable_it82 μ μ1 s u k x j) i = bit x i)
  | 0, _ => ⟨fun h => h, fun _ => rfl⟩
  | j + 1, hj => by
    have ih := re82_b (μ1 := μ1) (s := s) (k := k) (u := u) (x := x) B hi j (by omega)
    have hn := B.2.1
    obtain ⟨_, v3, _, _, e3, _⟩ := B.2.2 j (by omega)
    have l3 := vp_in_lt v3
    have f3 : μ 1 (96 + 7 * j + 1) = nI (σ 3 j).toNatClampNeg := by rw [← e3]; exact vp_nI v3 (by omega)
    rw [mf_reachable_it82, bit_or]
    refine ⟨fun h => by rw [ih.1 h]; rfl, fun h => ?_⟩
    rw [ih.2 h]
    have z : bit (if (m_has_r μ1 (m_lw_r (pr_up μ 0 6 (0 : Int32)) (mtn μ) (mln μ) u) (nI j)) = 0 then (0 : Int32) else (if (m_has_r μ1 (mf_reachable_it82 μ μ1 s u k x j) (μ 1 (96 + 7 * j + 0))) = 0 then (0 : Int32) else ((1 : Int32) <<< ((μ 1 (96 + 7 * j + 1)) &&& 31)))) i = false := by
      split
      · exact bit_0
      · split
        · exact bit_0
        · rw [f3, bit_sh1 (by omega) hi]
          exact decide_eq_false (by omega)
    rw [z, Bool.or_false]
/-- as many rounds as nodes are enough -/
theorem re67_cnt {nn s : Nat} {u : Int32} (B : BL σ μ (mln μ) nn) (hs : s < nn) : ∀ k, (∀ i, nn ≤ i → i < 32 → bit (mf_reachable_it67 μ s u k) i = false) ∧ (k + 1 ≤ cn (fun i => bit (mf_reachable_it67 μ s u k) i) nn ∨ ∃ m, m < k ∧ mf_reachable_it67 μ s u (m + 1) = mf_reachable_it67 μ s u m)
  | 0 => by
    have hn := B.2.1
    have e : mf_reachable_it67 μ s u 0 = (1 : Int32) <<< (nI s &&& 31) := rfl
    rw [e]
    refine ⟨fun i h1 h2 => by rw [bit_sh1 (by omega) h2]; exact decide_eq_false (by omega), Or.inl ?_⟩
    have := cn_lt (p := fun _ => false) (q := fun i => bit ((1 : Int32) <<< (nI s &&& 31)) i) (b := s) nn (fun _ _ h => absurd h (by decide)) hs (by decide) (by rw [bit_sh1 (by omega) (by omega)]; exact decide_eq_true rfl)
    omega
  | k + 1 => by
    have hn := B.2.1
    obtain ⟨i1, i2⟩ := re67_cnt (u := u) B hs k
    have st := re67_s (μ := μ) (s := s) (k := k) (u := u)
    have bb : ∀ i, i < 32 → (bit (mf_reachable_it67 μ s u k) i = true → bit (mf_reachable_it67 μ s u (k + 1)) i = true) ∧ (nn ≤ i → bit (mf_reachable_it67 μ s u (k + 1)) i = bit (mf_reachable_it67 μ s u k) i) := fun i hi => by
      rw [st]; exact re82_b B hi (mln μ) (Nat.le_refl _)
    refine ⟨fun i h1 h2 => ((bb i h2).2 h1).trans (i1 i h1 h2), ?_⟩
    by_cases c : mf_reachable_it67 μ s u (k + 1) = mf_reachable_it67 μ s u k
    · exact Or.inr ⟨k, by omega, c⟩
    · rcases i2 with q | ⟨m, m1, m2⟩
      · refine Or.inl ?_
        have ex : ∃ i, i < nn ∧ ¬ bit (mf_reachable_it67 μ s u k) i = true ∧ bit (mf_reachable_it67 μ s u (k + 1)) i = true := by
          refine Classical.byContradiction (fun w => c (bit_ext (fun i hi => ?_)))
          by_cases y : i < nn
          · cases e1 : bit (mf_reachable_it67 μ s u k) i
            · cases e2 : bit (mf_reachable_it67 μ s u (k + 1)) i
              · rfl
              · exact absurd ⟨i, y, by rw [e1]; decide, e2⟩ w
            · rw [(bb i hi).1 e1]
          · exact (bb i hi).2 (by omega)
        obtain ⟨i, a, b, d⟩ := ex
        have := cn_lt (p := fun i => bit (mf_reachable_it67 μ s u k) i) (q := fun i => bit (mf_reachable_it67 μ s u (k + 1)) i) (b := i) nn (fun x hx h => (bb x (by omega)).1 h) a b d
        omega
      · exact Or.inr ⟨m, by omega, m2⟩
theorem eq_reachable {σ μ : pr_I} (h : WT σ μ) {s : Nat} {u : Int32} (hs : s < ndn σ) : fx_reachable_r σ s u = mf_reachable_r μ s u := by
  have hn : ndn σ ≤ 12 := Nat.le_of_lt_succ (vp_in_lt (h.1.cr.w 0 6 13 rfl))
  have B : BL σ μ (mln μ) (ndn σ) := by rw [h.1.cr.ln]; exact h.1.bl
  have hu : HU (lk_wu σ u (lkn σ) &&& σ 1 7) (m_lw_r (pr_up μ 0 6 (0 : Int32)) (mtn μ) (mln μ) u) (mln μ) := by
    have := HU.wide h (u := u)
    rw [h.1.cr.ln] at this ⊢; exact this
  have R := (reach_rounds B hu (s := s) (by omega) 12).1
  rw [h.1.cr.ln] at R
  obtain ⟨_, C⟩ := re67_cnt (u := u) B hs (ndn σ)
  have lim := cn_le (p := fun i => bit (mf_reachable_it67 μ s u (ndn σ)) i) (ndn σ)
  unfold fx_reachable_r mf_reachable_r pt_reach_r
  rw [sl_eq 12, R, h.1.cr.nn]
  rcases C with q | ⟨m, m1, m2⟩
  · omega
  · have x1 := re67_fix m2 (12 - m)
    have x2 := re67_fix m2 (ndn σ - m)
    rw [show m + (12 - m) = 12 by omega] at x1
    rw [show m + (ndn σ - m) = ndn σ by omega] at x2
    rw [x1, x2]
end RCH3
