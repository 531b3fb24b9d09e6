/-! WAYS: cheapest, round trips, holds, reach, the widest -/
section WYS
variable {σ μ : pr_I}
/-- the links with so many units that are up -/
abbrev uz (σ : pr_I) (z : Int32) : Int32 := lk_wu σ z (lkn σ) &&& σ 1 7
def RR (σ : pr_I) (s t : Nat) (z : Int32) : Prop := bit (pt_reach_r σ (lkn σ) (nI s) (uz σ z)) t = true
theorem uz_bit (h24 : lkn σ ≤ 24) {z : Int32} {j : Nat} (hj : j < lkn σ) : bit (uz σ z) j = true ↔ ¬ lk_av σ j < z ∧ bit (σ 1 7) j = true := by
  unfold uz
  rw [bit_and, wu_bit _ h24 _ (by omega), decide_eq_true hj]
  by_cases c : lk_av σ j < z
  · rw [decide_eq_true c]; simp [c]
  · rw [decide_eq_false c]; simp [c]
theorem Pth.mono {u v : Int32} {nl s t n : Nat} {ls np : Nat → Nat} (p : Pth σ u nl s t n ls np) (h : ∀ j, j < nl → bit u j = true → bit v j = true) : Pth σ v nl s t n ls np :=
  ⟨p.1, p.2.1, fun i hi => by
    obtain ⟨a, b, c⟩ := p.2.2 i hi
    exact ⟨a, h _ a b, c⟩⟩
theorem way4 (h : WT σ μ) {s t : Nat} (hs : s < ndn σ) (ht : t < ndn σ) (hst : s ≠ t) (z : Int32) :
    (fx_cheapest_r σ s t z = -1 ∧ ¬ RR σ s t z ∧ ∀ n' ls' np', n' ≤ 11 → ¬ Pth σ (uz σ z) (lkn σ) s t n' ls' np') ∨
    ∃ (n : Nat) (ls np : Nat → Nat), 1 ≤ n ∧ n ≤ 11 ∧ RR σ s t z ∧ fx_len σ s t z = n ∧ ptm (fx_fp σ s t z) = n ∧ (∀ p, p < n → fx_fp σ s t z 117 p = nI (ls p) ∧ ls p < lkn σ) ∧ Pth σ (uz σ z) (lkn σ) s t n ls np ∧ fx_cheapest_r σ s t z = nI (psum σ ls n) ∧ psum σ ls n ≤ 11000 ∧ ∀ n' ls' np', Pth σ (uz σ z) (lkn σ) s t n' ls' np' → 16 * psum σ ls n + n ≤ 16 * psum σ ls' n' + n' := by
  have hnn : ndn σ ≤ 12 := Nat.le_of_lt_succ (vp_in_lt (h.1.cr.w 0 6 13 rfl))
  have h24 := wI_nl24 h.1.cr.w
  have B := h.1.mu.bl
  have rf := reach_fi B (HU.wide h (u := z)) hs ht h.1.mu.cr.ln h.1.mu.cr.nn
  have F := find4 B (HU.wide h (u := z)) (nI_vin hs (by omega)) (nI_vin ht (by omega)) h.1.mu.cr.ln h.1.mu.cr.nn
  rw [nI_clamp (show s < 2 ^ 31 by omega), nI_clamp (show t < 2 ^ 31 by omega)] at F
  unfold fx_cheapest_r fx_len
  rcases F with ⟨f0, f1, f2⟩ | ⟨n, ls, np, n11, f0, f1, f2, f3, f4, f5, f6⟩
  · have e : fx_fp_r σ s t z = nI 0 := f1
    rw [e]
    exact Or.inl ⟨if_pos rfl, fun q => rf.mp q f0, f2⟩
  · have e : fx_fp_r σ s t z = nI n := f1
    have n0 : n ≠ 0 := fun y => hst ((nI_eq (by omega) (by omega)).mp (f5.mp y))
    have cn0 : ¬ nI n = 0 := fun y => n0 ((nI_eq (b := 0) (by omega) (by decide)).mp y)
    have gm : ptm (fx_fp σ s t z) = n := by
      unfold ptm
      have x : fx_fp σ s t z 116 1 = nI n := f2
      rw [x, nI_clamp (by omega)]
    have g5 : fx_fp σ s t z 5 = σ 5 := fr_pt_find (by decide)
    have pl := psum_le B (fun p hp => (f3 p hp).2) n (Nat.le_refl _)
    rw [e, nI_clamp (by omega)]
    refine Or.inr ⟨n, ls, np, by omega, n11, rf.mpr f0, rfl, gm, f3, f4, ?_, by omega, f6⟩
    rw [if_neg cn0, gm, Nat.sub_zero, sum_pr (ls := ls) (n := n) g5 (fun p hp => ⟨(f3 p hp).1, by have := (f3 p hp).2; omega⟩) (fun p hp => (h.1.bl.2.2 _ (f3 p hp).2).2.2.1) n (Nat.le_refl _)]
end WYS
