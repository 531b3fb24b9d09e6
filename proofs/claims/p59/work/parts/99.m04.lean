/-! A WAY FOUND: it hangs together, no other is cheaper -/
section FND
variable {σ μ a : pr_I}
theorem pth_le {u : Int32} {nl s t n : Nat} {ls np : Nat → Nat} (hb : ∀ k, k < nl → bf_al u k → bf_D a (bf_f σ k) ≤ bf_D a (bf_g σ k) + bf_w σ k) (hl : nl ≤ 24) (h : Pth σ u nl s t n ls np) : ∀ p, p ≤ n → bf_D a s ≤ bf_D a (np p) + 16 * psum σ ls p + p
  | 0, _ => by rw [h.1]; exact Nat.le_add_right _ _
  | p + 1, hp => by
    have ih := pth_le hb hl h p (by omega)
    obtain ⟨c1, c2, c3, c4⟩ := h.2.2 p (by omega)
    have := hb (ls p) c1 ((bf_bit (by omega)).mpr c2)
    rw [c3, c4] at this
    have e : bf_w σ (ls p) = 16 * (σ 5 (ls p)).toNatClampNeg + 1 := rfl
    rw [psum_s]
    omega
theorem psum_le {nl nn n : Nat} {ls : Nat → Nat} (B : BL σ μ nl nn) (h : ∀ p, p < n → ls p < nl) : ∀ p, p ≤ n → psum σ ls p ≤ 1000 * p
  | 0, _ => Nat.le_refl _
  | p + 1, hp => by
    have ih := psum_le B h p (by omega)
    have := vp_in_lt (B.2.2 (ls p) (h p (by omega))).2.2.1
    rw [psum_s]
    omega
theorem find4 {u v s t : Int32} {nl nn : Nat} (B : BL σ μ nl nn) (hu : HU u v nl) (hs : vp_in s nn) (ht : vp_in t nn) (hl : mln μ = nl) (hnn : mnn μ = nn) :
    (m_fi_r μ s t v = 0 ∧ pt_find_r σ nl s t u = nI 0 ∧ ∀ n' ls' np', n' ≤ 11 → ¬ Pth σ u nl s.toNatClampNeg t.toNatClampNeg n' ls' np') ∨
    ∃ (n : Nat) (ls np : Nat → Nat), n ≤ 11 ∧ ¬ m_fi_r μ s t v = 0 ∧ pt_find_r σ nl s t u = nI n ∧ pt_find σ nl s t u 116 1 = nI n ∧ (∀ p, p < n → pt_find σ nl s t u 117 p = nI (ls p) ∧ ls p < nl) ∧ Pth σ u nl s.toNatClampNeg t.toNatClampNeg n ls np ∧ (n = 0 ↔ s = t) ∧ ∀ n' ls' np', Pth σ u nl s.toNatClampNeg t.toNatClampNeg n' ls' np' → 16 * psum σ ls n + n ≤ 16 * psum σ ls' n' + n' := by
  have hn := B.2.1
  have hs1 := vp_in_lt hs
  have ht1 := vp_in_lt ht
  have es : s = nI s.toNatClampNeg := vp_nI hs (by omega)
  have et : t = nI t.toNatClampNeg := vp_nI ht (by omega)
  have h24 := B.1
  have B' := B
  have B0 : BL (pr_up σ 116 1 (0 : Int32)) μ nl nn := by
    unfold BL
    rw [pr_up_ne (show (2 : Nat) ≠ 116 by decide), pr_up_ne (show (3 : Nat) ≠ 116 by decide), pr_up_ne (show (5 : Nat) ≠ 116 by decide)]
    exact B
  have M := meas B0 hu ht hl hnn
  have ef : bf_f (pr_up σ 116 1 (0 : Int32)) = bf_f σ := by funext k; unfold bf_f; rw [pr_upv (by decide)]
  have eg : bf_g (pr_up σ 116 1 (0 : Int32)) = bf_g σ := by funext k; unfold bf_g; rw [pr_upv (by decide)]
  have ew : bf_w (pr_up σ 116 1 (0 : Int32)) = bf_w σ := by funext k; unfold bf_w; rw [pr_upv (by decide)]
  rw [ef, eg, ew] at M
  have fr : ∀ o, o ≠ 118 → pt_meas (pr_up σ 116 1 (0 : Int32)) nl t u o = pr_up σ 116 1 (0 : Int32) o := fun o ho => fr_pt_meas (by simpa using ho)
  have a2 : pt_meas (pr_up σ 116 1 (0 : Int32)) nl t u 2 = σ 2 := (fr 2 (by decide)).trans (pr_up_ne (by decide))
  have a3 : pt_meas (pr_up σ 116 1 (0 : Int32)) nl t u 3 = σ 3 := (fr 3 (by decide)).trans (pr_up_ne (by decide))
  have a5 : pt_meas (pr_up σ 116 1 (0 : Int32)) nl t u 5 = σ 5 := (fr 5 (by decide)).trans (pr_up_ne (by decide))
  have a116 : pt_meas (pr_up σ 116 1 (0 : Int32)) nl t u 116 1 = nI 0 := (congrFun (fr 116 (by decide)) 1).trans pr_upe
  have W : WF σ μ (pt_meas (pr_up σ 116 1 (0 : Int32)) nl t u) (m_lp μ t v) u v t nl nn := ⟨B, hu, M.1, M.2.2.2.1, M.2.2.2.2.1, M.2.2.2.2.2, ht⟩
  have b1 := M.2.1
  have hlab := M.2.2.2.1
  have h0t := M.2.2.2.2.2
  unfold pt_find_r pt_find m_fi_r
  rw [sl_eq 11]
  generalize pt_meas (pr_up σ 116 1 (0 : Int32)) nl t u = a at *
  have h0 : bf_D a t.toNatClampNeg = 0 := W.2.2.2.2.2.1
  rcases W.2.2.1.at hs1 hn with ⟨q1, q2, q3⟩ | ⟨P, S, q1, q2, q3, q4, q5, q6, _⟩
  · have c1 : a 118 s.toNatClampNeg = (1000000000 : Int32) := q1
    rw [if_pos c1]
    refine Or.inl ⟨if_pos q2, rfl, fun n' ls' np' hn' hp => ?_⟩
    have l1 := pth_le W.2.2.2.1 h24 hp n' (Nat.le_refl _)
    rw [hp.2.1, h0] at l1
    have l2 := psum_le B' (fun p hp' => (hp.2.2 p hp').1) n' (Nat.le_refl _)
    have e : bf_D a s.toNatClampNeg = 1000000000 := by unfold bf_D; rw [q1, nI_clamp (by decide)]
    omega
  · have hF : bf_D a s.toNatClampNeg < 1000000000 := by omega
    have c1 : ¬ a 118 s.toNatClampNeg = (1000000000 : Int32) := fun z => by
      have z2 : nI (16 * P + S) = nI 1000000000 := q1.symm.trans z
      have := (nI_eq (by omega) (by decide)).mp z2
      omega
    have c2 : ¬ m_lp μ t v 8 s.toNatClampNeg = (1000000000 : Int32) := fun z => by
      have z2 : nI P = nI 1000000000 := q2.symm.trans z
      have := (nI_eq (by omega) (by decide)).mp z2
      omega
    have r11 := (W.rest hs1 hF).1
    have RL := rl_end W a2 a3 a5 a116 hs1 hF (S := s)
    rw [← es] at RL
    have sm := W.sum hs1 hF (bf_D a s.toNatClampNeg % 16) (Nat.le_refl _)
    rw [W.te hs1 hF, h0] at sm
    rw [if_neg c1, if_neg c1, if_neg c2, show 11 + 1 = 12 from rfl, RL]
    refine Or.inr ⟨bf_D a s.toNatClampNeg % 16, fun p => nxl σ a u nl (nd σ a u nl s.toNatClampNeg p), nd σ a u nl s.toNatClampNeg, r11, by decide, rfl, cst_len a116 _, fun p hp => ⟨cst_117 _ p hp, (W.nt hs1 hF hp).2.1⟩, ⟨rfl, W.te hs1 hF, fun p hp => ?_⟩, ?_, fun n' ls' np' hp => ?_⟩
    · obtain ⟨_, f1, f2, _⟩ := W.nt hs1 hF hp
      have f3 := (bf_bit (k := nxl σ a u nl (nd σ a u nl s.toNatClampNeg p)) (by omega)).mp f2.1
      exact ⟨f1, f3, f2.2.1, nd_s.symm⟩
    · rw [(W.rest hs1 hF).2]
      exact ⟨fun z => by rw [es, et, z], fun z => by rw [z]⟩
    · have l1 := pth_le W.2.2.2.1 h24 hp n' (Nat.le_refl _)
      rw [hp.2.1, h0] at l1
      omega
end FND
