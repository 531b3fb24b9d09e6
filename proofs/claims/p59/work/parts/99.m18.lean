/-! WAYS: the widest -/
section WYS3
variable {σ μ : pr_I}
/-- where there is a way of so many units, its narrowest link has as many -/
theorem wide_z (h : WT σ μ) {s t : Nat} (hs : s < ndn σ) (ht : t < ndn σ) (hst : s ≠ t) {z : Int32} (g : RR σ s t z) : ∃ j, j < lkn σ ∧ ¬ lk_up σ j = 0 ∧ gdw σ s t j ∧ z.toInt ≤ (lk_av σ j).toInt := by
  have hnn : ndn σ ≤ 12 := Nat.le_of_lt_succ (vp_in_lt (h.1.cr.w 0 6 13 rfl))
  have h24 := wI_nl24 h.1.cr.w
  have hu := HU.wide h (u := z)
  obtain ⟨n, ls, np, p1, p2, p3⟩ := fi_pth h.1.mu.bl hu hs ht h.1.mu.cr.ln h.1.mu.cr.nn ((reach_fi h.1.mu.bl hu hs ht h.1.mu.cr.ln h.1.mu.cr.nn).mp g)
  have n0 : 0 < n := by
    by_cases z : n = 0
    · rw [z] at p2; exact absurd (p1.symm.trans p2) hst
    · omega
  have W : ∀ x, x < n → lk_up σ (ls x) ≠ 0 ∧ z.toInt ≤ (lk_av σ (ls x)).toInt ∧ bit (σ 1 7) (ls x) = true := fun x hx => by
    obtain ⟨a, b, _⟩ := p3 x hx
    obtain ⟨b1, b2⟩ := (uz_bit h24 a).mp b
    refine ⟨by rw [lk_bit (by omega), b2]; decide, ?_, b2⟩
    rw [lt_i] at b1; omega
  obtain ⟨x, x1, _, x3⟩ := mn (fun i => ((lk_av σ (ls i)).toInt + 2147483648).toNat) (fun _ => True) n ⟨0, n0, trivial⟩
  have lo : ∀ y, y < n → (lk_av σ (ls x)).toInt ≤ (lk_av σ (ls y)).toInt := fun y hy => by
    have q : ((lk_av σ (ls x)).toInt + 2147483648).toNat ≤ ((lk_av σ (ls y)).toInt + 2147483648).toNat := x3 y hy trivial
    have := (lk_av σ (ls x)).le_toInt
    have := (lk_av σ (ls y)).le_toInt
    omega
  refine ⟨ls x, (p3 x x1).1, (W x x1).1, ?_, (W x x1).2.1⟩
  refine pth_reach h.1.bl hs (n := n) (ls := ls) (np := np) ⟨p1, p2, fun y hy => ?_⟩
  obtain ⟨a, _, c⟩ := p3 y hy
  refine ⟨a, ?_, c⟩
  have := lo y hy
  exact (uz_bit h24 a).mpr ⟨fun z => by have := lt_i.mp z; omega, (W y hy).2.2⟩
/-- the widest way: there is one of so many units, and none of more -/
theorem width_z (h : WT σ μ) {s t : Nat} (hs : s < ndn σ) (ht : t < ndn σ) (hst : s ≠ t) : 0 ≤ (fx_widest_r σ s t).toInt ∧ (fx_widest_r σ s t = 0 ∨ (RR σ s t (fx_widest_r σ s t) ∧ ∃ j, j < lkn σ ∧ fx_widest_r σ s t = lk_av σ j)) ∧ ∀ z, RR σ s t z → z.toInt ≤ (fx_widest_r σ s t).toInt := by
  have hnn : ndn σ ≤ 12 := Nat.le_of_lt_succ (vp_in_lt (h.1.cr.w 0 6 13 rfl))
  obtain ⟨i1, i2, i3⟩ := width_it (σ := σ) (s := s) (show t < 32 by omega) (lkn σ)
  refine ⟨i1, ?_, fun z g => ?_⟩
  · rcases i2 with q | ⟨j, a, b, c⟩
    · exact Or.inl q
    · have c' : fx_widest_r σ s t = lk_av σ j := c
      exact Or.inr ⟨by rw [c']; exact b, j, a, c'⟩
  · obtain ⟨j, a, b, c, d⟩ := wide_z h hs ht hst g
    have := i3 j a b c
    exact Int.le_trans d this
end WYS3
