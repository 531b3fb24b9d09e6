/-! REACHED NODES, ROUND BY ROUND: the same on both sides (that nn rounds are enough is wanting) -/
section RCH
variable {σ μ : pr_I}
theorem reach_in {σ1 μ1 : pr_I} {nl nn : Nat} {w v : Int32} (B : BL σ μ nl nn) (hu : HU w v nl) {s1 : Int32} {s2 k1 k2 : Nat} {u x x5 : Int32} (ev : m_lw_r (pr_up μ 0 6 (0 : Int32)) (mtn μ) (mln μ) u = v) : ∀ j, j ≤ nl → pt_reach_it32 σ σ1 nl s1 w k1 x x5 j = mf_reachable_it82 μ μ1 s2 u k2 x j
  | 0, _ => rfl
  | j + 1, hj => by
    have ih := reach_in (σ1 := σ1) (μ1 := μ1) B hu (s1 := s1) (s2 := s2) (k1 := k1) (k2 := k2) (x := x) (x5 := x5) ev j (by omega)
    have hn := B.2.1
    have hl := B.1
    obtain ⟨v2, v3, _, e2, e3, _⟩ := B.2.2 j (by omega)
    have l2 := vp_in_lt v2
    have f2 : σ 2 j = nI (σ 2 j).toNatClampNeg := vp_nI v2 (by omega)
    rw [pt_reach_it32, mf_reachable_it82, ih, ev, ← e2, ← e3]
    congr 1
    have h1 := hu j (by omega) μ1
    by_cases c1 : ((w >>> (nI j &&& 31)) &&& 1) = 0
    · have c1' : m_has_r μ1 v (nI j) = 0 := h1.mpr (fun z => z c1)
      rw [if_pos c1, if_pos rfl, if_pos c1']
    · have c1' : ¬ m_has_r μ1 v (nI j) = 0 := fun z => (h1.mp z) c1
      rw [if_neg c1, if_neg c1']
      have hb : m_has_r μ1 (mf_reachable_it82 μ μ1 s2 u k2 x j) (σ 2 j) = 0 ↔ ((mf_reachable_it82 μ μ1 s2 u k2 x j >>> (σ 2 j &&& 31)) &&& 1) = 0 := by
        rw [f2, has_bit (by omega), bit_eq (by omega)]
        cases bit (mf_reachable_it82 μ μ1 s2 u k2 x j) (σ 2 j).toNatClampNeg
        · exact ⟨fun _ => rfl, fun _ q => absurd q (by decide)⟩
        · exact ⟨fun q => absurd rfl q, fun q => absurd q (by decide)⟩
      by_cases c2 : ((mf_reachable_it82 μ μ1 s2 u k2 x j >>> (σ 2 j &&& 31)) &&& 1) = 0
      · rw [if_pos c2, if_pos rfl, if_pos (hb.mpr c2)]
      · rw [if_neg c2, if_neg (show ¬ (1 : Int32) = 0 by decide), if_neg (fun q => c2 (hb.mp q))]
end RCH
