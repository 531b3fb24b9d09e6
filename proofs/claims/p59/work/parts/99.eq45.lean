/-! THE PRICE OF A CHEAPEST WAY -/
def psum (σ : pr_I) (ls : Nat → Nat) : Nat → Nat
  | 0 => 0
  | k + 1 => psum σ ls k + (σ 5 (ls k)).toNatClampNeg
theorem psum_s {σ : pr_I} {ls : Nat → Nat} {k : Nat} : psum σ ls (k + 1) = psum σ ls k + (σ 5 (ls k)).toNatClampNeg := rfl
theorem WF.sum {σ μ a b : pr_I} {u v t : Int32} {nl nn s : Nat} (h : WF σ μ a b u v t nl nn) (hs : s < nn) (hF : bf_D a s < 1000000000) : ∀ k, k ≤ bf_D a s % 16 → bf_D a s = bf_D a (nd σ a u nl s k) + 16 * psum σ (fun p => nxl σ a u nl (nd σ a u nl s p)) k + k
  | 0, _ => by
    show bf_D a s = bf_D a s + 16 * 0 + 0
    omega
  | k + 1, hk => by
    have ih := h.sum hs hF k (by omega)
    obtain ⟨_, _, g, _⟩ := h.nt hs hF (k := k) (by omega)
    have g3 := g.2.2
    have hw : bf_w σ (nxl σ a u nl (nd σ a u nl s k)) = 16 * (σ 5 (nxl σ a u nl (nd σ a u nl s k))).toNatClampNeg + 1 := rfl
    rw [psum_s, nd_s]
    show bf_D a s = bf_D a (bf_g σ (nxl σ a u nl (nd σ a u nl s k))) + 16 * (psum σ (fun p => nxl σ a u nl (nd σ a u nl s p)) k + (σ 5 (nxl σ a u nl (nd σ a u nl s k))).toNatClampNeg) + (k + 1)
    omega
theorem find3 {σ μ : pr_I} {u v s t : Int32} {nl nn : Nat} (B : BL σ μ nl nn) (hu : HU u v nl) (hs : vp_in s nn) (ht : vp_in t nn) (hl : mln μ = nl) (hnn : mnn μ = nn) : m_fi_r μ s t v = 0 ∨ ∃ (n : Nat) (ls : Nat → Nat), n ≤ 11 ∧ pt_find_r σ nl s t u = nI n ∧ pt_find σ nl s t u 116 1 = nI n ∧ (∀ p, p < n → pt_find σ nl s t u 117 p = nI (ls p) ∧ ls p < nl) ∧ m_fi μ s t v 8 s.toNatClampNeg = nI (psum σ ls n) ∧ psum σ ls n ≤ 11000 := by
  have hn := B.2.1
  have hs1 := vp_in_lt hs
  have ht1 := vp_in_lt ht
  have es : s = nI s.toNatClampNeg := vp_nI hs (by omega)
  have B0 : BL (pr_up σ 116 1 (0 : Int32)) μ nl nn := by
    unfold BL
    rw [pr_up_ne (show (2 : Nat) ≠ 116 by decide), pr_up_ne (show (3 : Nat) ≠ 116 by decide), pr_up_ne (show (5 : Nat) ≠ 116 by decide)]
    exact B
  have M := meas B0 hu ht hl hnn
  have ef : bf_f (pr_up σ 116 1 (0 : Int32)) = bf_f σ := by funext k; unfold bf_f; rw [pr_upv (by decide)]
  have eg : bf_g (pr_up σ 116 1 (0 : Int32)) = bf_g σ := by funext k; unfold bf_g; rw [pr_upv (by decide)]
  have ew : bf_w (pr_up σ 116 1 (0 : Int32)) = bf_w σ := by funext k; unfold bf_w; rw [pr_upv (by decide)]
  rw [ef, eg, ew] at M
  have fr : ∀ o, o ≠ 118 → pt_meas (pr_up σ 116 1 (0 : Int32)) nl t u o = pr_up σ 116 1 (0 : Int32) o := fun o ho => fr_pt_meas (by simpa using ho)
  have a2 : pt_meas (pr_up σ 116 1 (0 : Int32)) nl t u 2 = σ 2 := (fr 2 (by decide)).trans (pr_up_ne (by decide))
  have a3 : pt_meas (pr_up σ 116 1 (0 : Int32)) nl t u 3 = σ 3 := (fr 3 (by decide)).trans (pr_up_ne (by decide))
  have a5 : pt_meas (pr_up σ 116 1 (0 : Int32)) nl t u 5 = σ 5 := (fr 5 (by decide)).trans (pr_up_ne (by decide))
  have a116 : pt_meas (pr_up σ 116 1 (0 : Int32)) nl t u 116 1 = nI 0 := (congrFun (fr 116 (by decide)) 1).trans pr_upe
  have W : WF σ μ (pt_meas (pr_up σ 116 1 (0 : Int32)) nl t u) (m_lp μ t v) u v t nl nn := ⟨B, hu, M.1, M.2.2.2.1, M.2.2.2.2.1, M.2.2.2.2.2, ht⟩
  have b1 := M.2.1
  unfold pt_find_r pt_find m_fi_r m_fi
  rw [sl_eq 11]
  generalize pt_meas (pr_up σ 116 1 (0 : Int32)) nl t u = a at *
  rcases W.2.2.1.at hs1 hn with ⟨q1, q2, q3⟩ | ⟨P, S, q1, q2, q3, q4, q5, q6, _⟩
  · exact Or.inl (if_pos q2)
  · have hF : bf_D a s.toNatClampNeg < 1000000000 := by omega
    have c1 : ¬ a 118 s.toNatClampNeg = (1000000000 : Int32) := fun z => by
      have z2 : nI (16 * P + S) = nI 1000000000 := q1.symm.trans z
      have := (nI_eq (by omega) (by decide)).mp z2
      omega
    have c2 : ¬ m_lp μ t v 8 s.toNatClampNeg = (1000000000 : Int32) := fun z => by
      have z2 : nI P = nI 1000000000 := q2.symm.trans z
      have := (nI_eq (by omega) (by decide)).mp z2
      omega
    have r11 := (W.rest hs1 hF).1
    have RL := rl_end W a2 a3 a5 a116 hs1 hF (S := s)
    rw [← es] at RL
    have I12 : m_fi_it27 μ s t v (sl 12) = (rst σ a (m_lp μ t v) u nl s.toNatClampNeg (bf_D a s.toNatClampNeg % 16), t) := by
      have := it27_end W rfl b1 hs1 hF (k := sl 12) (by rw [sl_eq 12]; omega)
      rw [← es] at this; exact this
    have sm := W.sum hs1 hF (bf_D a s.toNatClampNeg % 16) (Nat.le_refl _)
    rw [W.te hs1 hF, W.2.2.2.2.2.1] at sm
    have eP : psum σ (fun p => nxl σ a u nl (nd σ a u nl s.toNatClampNeg p)) (bf_D a s.toNatClampNeg % 16) = P := by omega
    rw [if_neg c1, if_neg c1, if_neg c2, show 11 + 1 = 12 from rfl, RL, I12]
    refine Or.inr ⟨bf_D a s.toNatClampNeg % 16, fun p => nxl σ a u nl (nd σ a u nl s.toNatClampNeg p), r11, rfl, cst_len a116 _, fun p hp => ⟨cst_117 _ p hp, (W.nt hs1 hF hp).2.1⟩, ?_, by rw [eP]; omega⟩
    rw [if_neg c2, eP]
    show rst σ a (m_lp μ t v) u nl s.toNatClampNeg (bf_D a s.toNatClampNeg % 16) 8 s.toNatClampNeg = nI P
    rw [rst_r (by decide) (by decide)]; exact q2
theorem sum_pr {σ F : pr_I} {ls : Nat → Nat} {n : Nat} (f5 : F 5 = σ 5) (hp : ∀ p, p < n → F 117 p = nI (ls p) ∧ ls p < 24) (hv : ∀ p, p < n → vp_in (σ 5 (ls p)) 1001) : ∀ k, k ≤ n → pt_sum_pr F 0 k = nI (psum σ ls k)
  | 0, _ => rfl
  | k + 1, hk => by
    have ih := sum_pr f5 hp hv k (by omega)
    have q := hp k (by omega)
    have e := vp_nI (hv k (by omega)) (by decide)
    rw [pt_sum_pr, ih, f5, Nat.zero_add, q.1, nI_clamp (by omega), e, nI_add, psum_s]
theorem eq_cheapest {σ μ : pr_I} (h : WT σ μ) {s t : Nat} {u : Int32} (hs : s < ndn σ) (ht : t < ndn σ) (hst : s ≠ t) : fx_cheapest_r σ s t u = mf_cheapest_r μ s t u := by
  have hnn : ndn σ ≤ 12 := Nat.le_of_lt_succ (vp_in_lt (h.1.cr.w 0 6 13 rfl))
  have h24 := wI_nl24 h.1.cr.w
  have F3 := find3 h.1.mu.bl (HU.wide h (u := u)) (nI_vin hs (by omega)) (nI_vin ht (by omega)) h.1.mu.cr.ln h.1.mu.cr.nn
  obtain ⟨_, F⟩ := find_wide h hs ht (u := u)
  unfold fx_cheapest_r mf_cheapest_r fx_len
  rcases F with ⟨a, b⟩ | ⟨n, ls, n11, a, b, c, d, e⟩
  · rw [a, b, if_pos rfl, if_pos (show nI (nI 0).toNatClampNeg = 0 from rfl)]
  · rcases F3 with g | ⟨n', ls', g1, g2, g3, g4, g5, _⟩
    · rw [b] at g; exact absurd g (by decide)
    · have enn : n' = n := by
        have x : fx_fp_r σ s t u = nI n' := g2
        rw [a] at x
        exact ((nI_eq (by omega) (by omega)).mp x).symm
      subst enn
      have n0 : ¬ nI (nI n').toNatClampNeg = 0 := fun z => by
        rw [nI_clamp (by omega)] at z
        exact hst (e.mp ((nI_eq (b := 0) (by omega) (by decide)).mp z))
      have gm : ptm (fx_fp σ s t u) = n' := by
        unfold ptm
        have x : fx_fp σ s t u 116 1 = nI n' := g3
        rw [x, nI_clamp (by omega)]
      have f5 : fx_fp σ s t u 5 = σ 5 := fr_pt_find (by decide)
      rw [a, b, if_neg n0, if_neg (show ¬ (1 : Int32) = 0 by decide), gm, Nat.sub_zero, sum_pr (ls := ls') (n := n') f5 (fun p hp => ⟨(g4 p hp).1, by have := (g4 p hp).2; omega⟩) (fun p hp => (h.1.bl.2.2 _ (g4 p hp).2).2.2.1) n' (Nat.le_refl _)]
      rw [nI_clamp (show s < 2 ^ 31 by omega)] at g5
      exact g5.symm
