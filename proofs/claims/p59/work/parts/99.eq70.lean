/-! LOAD ON BOTH SIDES -/
/-- the texts -/
def TXT (φ μ : pr_I) (n : Nat) : Prop := φ 0 3 = nI n ∧ μ 0 8 = nI n ∧ n ≤ 700 ∧ TB (φ 1) (μ 7) n ∧ φ 0 0 = μ 0 13
theorem LD.start {τ : pr_I} {ν : Nat → Int64} {h : Nat → Int32} : LD (w_clear τ) ν (bg_row h) 0 0 := by
  have k : ∀ o, o ≠ 119 → w_clear τ o = (pr_up (pr_up (pr_up (pr_up (pr_up (pr_up τ 1 8 (0 : Int32)) 1 7 (0 : Int32)) 9 8 (0 : Int32)) 18 17 (0 : Int32)) 0 6 (0 : Int32)) 0 7 (0 : Int32)) o := fun o ho => pr_row_ne ho
  have k9 : ∀ j, j < 5 → w_clear τ 119 j = pr_sv 0 j := fun j hj => by
    unfold w_clear
    rw [pr_row_eq]
    exact if_pos hj
  have sv0 : ∀ j, j < 5 → pr_sv 0 j = bg_row h (1 + j) := fun j hj => by
    rcases (by omega : j = 0 ∨ j = 1 ∨ j = 2 ∨ j = 3 ∨ j = 4) with rfl | rfl | rfl | rfl | rfl <;> rfl
  refine ⟨⟨⟨?_, rfl, by decide⟩, ⟨?_, rfl, by decide⟩, ⟨?_, rfl⟩, ⟨?_, rfl⟩, ⟨?_, rfl⟩⟩, ⟨fun j hj => (k9 j hj).trans (sv0 j hj), ?_⟩, fun i hi => absurd hi (by omega), fun j h1 h2 => ?_, ⟨fun i hi => absurd hi (by omega), fun i j _ hj => absurd hj (by omega)⟩⟩
  · rw [k 0 (by decide), pr_upk (by decide), pr_upe]; rfl
  · rw [k 1 (by decide), pr_upv (by decide), pr_upv (by decide), pr_upv (by decide), pr_upv (by decide), pr_upk (by decide), pr_upe]; rfl
  · rw [k 0 (by decide), pr_upe]
  · rw [k 18 (by decide), pr_upv (by decide), pr_upv (by decide), pr_upe]
  · rw [k 9 (by decide), pr_upv (by decide), pr_upv (by decide), pr_upv (by decide), pr_upe]
  · unfold Se
    rw [k9 0 (by decide), k9 1 (by decide), k9 2 (by decide), k9 3 (by decide), k9 4 (by decide)]
    decide
  · unfold bg_row
    rw [if_neg (by omega), if_neg (by omega), if_neg (by omega), if_neg (by omega), if_neg (by omega), if_pos (by omega)]
/-- the reference where a configuration begins -/
noncomputable def m_X0 (μ : pr_I) : pr_I := pr_up (pr_up (pr_row (pr_up μ 0 6 (0 : Int32)) 3 (bg_row (μ 3))) 0 9 (0 : Int32)) 0 12 (0 : Int32)
theorem ri_pair {φ τ μ : pr_I} {ν : Nat → Int64} {n : Nat} (t : TXT φ μ n) (hm : mI μ) : RE (ri_R φ τ ν) (ra_R (m_X0 μ) n) := by
  obtain ⟨t1, t2, t3, t4, _⟩ := t
  have i0 : IS (in_cl φ) (μ 7) n 0 := by
    unfold in_cl
    refine ⟨?_, ?_, Nat.zero_le _, t3, ?_⟩
    · rw [pr_upk (by decide), pr_upk (by decide), pr_upk (by decide)]; exact t1
    · rw [pr_upk (by decide), pr_upk (by decide), pr_upe]; rfl
    · rw [pr_up_ne (by decide), pr_up_ne (by decide), pr_up_ne (by decide)]; exact t4
  have z0 : (in_cl φ) 0 0 = 0 := by unfold in_cl; rw [pr_upk (by decide), pr_upe]
  have x7 : (m_X0 μ) 7 = μ 7 := by unfold m_X0; rw [u07, u07, pr_row_ne (by decide), u07]
  have xr : rk n (m_X0 μ) := hrk hm t2
  have x3 : (m_X0 μ) 3 = bg_row (μ 3) := by unfold m_X0; rw [u03, u03, pr_row_eq]
  have x9 : (m_X0 μ) 0 9 = nI 0 := by unfold m_X0; rw [pr_upk (by decide), pr_upe]; rfl
  have ld : LD (w_clear τ) ν ((m_X0 μ) 3) 0 0 := by rw [x3]; exact LD.start
  have mp : m_pt (m_X0 μ) = 0 := m_pt_eq x9 (by decide)
  unfold ri_R ra_R
  rw [mp, ld.fq.1, ld.fq.2, x7]
  rcases st_pair i0 z0 x7 xr.2.1 ld with ⟨q, p2, fn2, fl2, y1, y2, y3, y4, y5, y6⟩ | ⟨q, B⟩
  · rw [if_neg q]
    obtain ⟨k1, p3, k2, k3, k4⟩ := m_rs_I xr t3 (p := 0) (by omega) ld.1.1.2.2 ld.1.2.1.2.2 q
    rw [sl_eq 700]
    exact ri_loop n p2 0 (700 + 1) (n + 1) _ _ _ _ fn2 fl2 (by omega) (by omega) (by omega) (by omega) y1 y2 y3 y4 k1 y6
  · rw [if_pos q]
    refine Or.inr ⟨rfl, ?_⟩
    rw [ri_err B.1]
    exact B
/-- what was read is a world without requests -/
theorem LD.wx {τ μ : pr_I} {ν : Nat → Int64} {fn fl : Nat} (h : LD τ ν (μ 1) fn fl) (hw : wI τ) (hm : mI μ) : WX τ μ := by
  have enl := h.nl
  have enn := h.nn
  obtain ⟨⟨a1, a2, a3, a4, a5⟩, ⟨b1, b2⟩, c, d, e⟩ := h
  have er : rqn τ = 0 := by unfold rqn; rw [a4.1]; rfl
  have et : tkn τ = 0 := by unfold tkn; rw [a5.1]; rfl
  have t0 : (τ 0 7).toInt = 0 := by rw [a3.1]; rfl
  refine ⟨⟨⟨⟨hw, hm, ?_, fun t ht => absurd ht (by omega), fun t ht => absurd ht (by omega), ?_⟩, ?_, fun r p hr => absurd hr (by omega), ?_, fun r hr => absurd hr (by omega), b2, ?_, fun r hr => absurd hr (by omega)⟩, fun t ht => absurd ht (by omega), fun r hr => absurd hr (by omega), fun r hr => absurd hr (by omega)⟩, ⟨fun t ht => absurd ht (by omega), fun r hr => absurd hr (by omega)⟩, by omega⟩
  · rw [er, et, enl]
    intro j hj
    rcases hj with hj | ⟨k, q, hk, hq, h5, rfl⟩ | ⟨r, q, hr, _⟩ | ⟨t, q, ht, _⟩
    · rcases (by omega : j = 0 ∨ j = 1 ∨ j = 2 ∨ j = 3 ∨ j = 4 ∨ j = 5 ∨ j = 6 ∨ j = 7 ∨ j = 8 ∨ j = 9) with rfl | rfl | rfl | rfl | rfl | rfl | rfl | rfl | rfl | rfl
      · exact a3.1.trans a3.2.symm
      · exact b1 0 (by decide)
      · exact b1 1 (by decide)
      · exact b1 2 (by decide)
      · exact b1 3 (by decide)
      · exact b1 4 (by decide)
      · exact a1.1.trans a1.2.1.symm
      · exact a2.1.trans a2.2.1.symm
      · exact a4.1.trans a4.2.symm
      · exact a5.1.trans a5.2.symm
    · have l24 := a2.2.2
      by_cases q5 : q < 5
      · rw [cA_link (by omega) q5]; exact (c k hk).1 q q5
      · rw [show q = 6 by omega, cA_fail (by omega)]; exact (c k hk).2.1.2.1.trans (c k hk).2.1.2.2.symm
    · exact absurd hr (by omega)
    · exact absurd ht (by omega)
  · intro k hk
    rw [et]
    exact (c k (by omega)).2.1.1
  · intro k hk
    have l24 := a2.2.2
    rw [lk_bit (by omega), if_pos (c k (by omega)).2.2.1.1]
    exact (c k (by omega)).2.2.1.2.symm
  · intro k hk
    rw [enn]
    exact (c k (by omega)).2.2.2
  · show 0 ≤ (τ 0 7).toInt ∧ (τ 0 7).toInt ≤ 1100000
    omega
