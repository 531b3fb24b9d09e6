/-! FLOWS, CUTS, WAYS: all that isFlow() asks -/
section ISG
variable {σ μ : pr_I} {s t : Nat}
theorem av_cp {φ : pr_I} (h24 : lkn σ ≤ 24) {k : Nat} (hk : k < lkn σ) : fl_av φ σ (lkn σ) 1 k = cp σ k := by
  unfold fl_av cp
  rw [av_room _ _ hk, lk_bit (by omega)]
  cases bit (σ 1 7) k <;> rfl
theorem one_cp {φ : pr_I} {u : Int32} {k : Nat} (hk : k < 24) : fl_one φ u 1 k = if bit u k = true then 1 else 0 := by
  unfold fl_one
  rw [one_room _ _ (by rw [sl_eq 24]; exact hk), bit_eq (by omega)]
theorem Inv.isF (h : Inv 18 σ μ) (h9 : lkn σ = 9) (h5 : ndn σ = 5) (ha : s < 5) (hb : t < 5) (hst : s ≠ t) : IsF σ μ s t := by
  obtain ⟨hx, j, e6, e8, ca, tn⟩ := h
  have wt := hx.1
  have tx := hx.2.1
  have W := wt.1
  have h24 := wI_nl24 W.cr.w
  have B := W.bl
  have hs : s < ndn σ := by omega
  have ht : t < ndn σ := by omega
  have ca' : ∀ l, l < lkn σ → (σ 4 l).toInt ≤ 999 := fun l hl => ca l (by omega)
  have cb : ∀ l, l < lkn σ → 0 ≤ (cp σ l).toInt ∧ (cp σ l).toInt ≤ 999 := fun l hl => cp_bd hx j ca' hl
  obtain ⟨φ, hφ⟩ : ∃ φ : pr_I, φ = fun _ _ => 0 := ⟨_, rfl⟩
  have z0 : (0 : Int32).toInt = 0 := rfl
  have i1' : (1 : Int32).toInt = 1 := rfl
  obtain ⟨Q, q1, q2, q3, q4, q5, q6, q7, q8, q9⟩ := fl_res (φ := fl_av φ σ (lkn σ)) B (fun k hk => by rw [av_cp h24 hk]; have := cb k hk; omega) W.cr.ln W.cr.nn hs ht hst
  obtain ⟨R, hR⟩ : ∃ R : Nat → Bool, R = fun y => bit (fl_se Q σ (lkn σ) (nI s) 0 4) y := ⟨_, rfl⟩
  have Rs : R s = true := by rw [hR]; exact q8
  have Rt : R t = false := by rw [hR]; exact q7
  have Qc : ∀ k, k < lkn σ → 0 ≤ (Q 2 k).toInt ∧ (Q 2 k).toInt ≤ (cp σ k).toInt := fun k hk => by
    obtain ⟨a1, a2, _⟩ := q5.1 k hk
    have := cb k hk
    rw [q6, av_cp h24 hk] at a2
    omega
  have filled : XV σ R (Q 2) (lkn σ) = CC σ R (cp σ) (lkn σ) := XV_eq (lkn σ) (fun k hk => by
    have l2 : bf_f σ k < ndn σ := vp_in_lt (B.2.2 k hk).1
    have l3 : bf_g σ k < ndn σ := vp_in_lt (B.2.2 k hk).2.1
    have qc := Qc k hk
    have e1 : Q 1 k = cp σ k := by rw [q6]; exact av_cp h24 hk
    refine ⟨fun r1 r2 => ?_, fun r1 r2 => ?_⟩
    · refine Classical.byContradiction fun z => ?_
      have c : R (bf_g σ k) = true := by
        rw [hR] at r1 ⊢
        exact q9 k (bf_f σ k) (bf_g σ k) hk l2 l3 r1 (Or.inl ⟨rfl, rfl, by rw [e1, lt_i]; omega⟩)
      rw [r2] at c; exact absurd c (by decide)
    · refine Classical.byContradiction fun z => ?_
      have c : R (bf_f σ k) = true := by
        rw [hR] at r2 ⊢
        exact q9 k (bf_g σ k) (bf_f σ k) hk l3 l2 r2 (Or.inr ⟨rfl, rfl, by rw [lt_i, z0]; omega⟩)
      rw [r1] at c; exact absurd c (by decide))
  have hF : (fx_greatestFlow_r φ σ s t).toInt = CC σ R (cp σ) (lkn σ) := by
    rw [← filled, ← flow_cut B q5 hs Rs Rt]
    exact q2
  have eF : mf_greatestFlow_r μ s t = fx_greatestFlow_r φ σ s t := (eq_greatestFlow (φ := φ) wt tx hs ht hst).1.symm
  have eC : mf_smallestCut_r μ s t = fx_smallestCut_r φ σ s t := (eq_smallestCut (φ := φ) wt tx hs ht hst).1.symm
  have eW : mf_widest_r μ s t = fx_widest_r σ s t := (eq_widest wt hs ht hst).1.symm
  have eD : mf_disjointPaths_r μ s t 1 = fx_disjointPaths_r φ σ s t 1 := (eq_disjointPaths (φ := φ) wt hs ht hst).1.symm
  have eH : ∀ z, mf_cheapest_r μ s t z = fx_cheapest_r σ s t z := fun z => (eq_cheapest wt hs ht hst).symm
  have eN : ∀ z, mf_neededHold_r μ s t z = fx_neededHold_r σ s t z := fun z => (eq_neededHold wt hs ht hst).symm
  have eT : ∀ z, mf_roundTrip_r μ s t z = fx_roundTrip_r σ s t z := fun z => (eq_roundTrip wt hs ht hst).symm
  have eR : mf_reachable_r μ s 1 = fx_reachable_r σ s 1 := (eq_reachable wt hs).symm
  obtain ⟨w1, w2, w3⟩ := width_z wt hs ht hst
  have F0 := (CC_0 (σ := σ) (R := R) (c := cp σ) (lkn σ) cb).1
  -- a way of z units crosses the cut
  have over : ∀ z : Int32, 0 ≤ z.toInt → RR σ s t z → z.toInt ≤ CC σ R (cp σ) (lkn σ) := fun z z1 rr => by
    rcases way4 wt hs ht hst z with ⟨_, a, _⟩ | ⟨n, ls, np, _, _, _, _, _, _, p, _, _, _⟩
    · exact absurd rr a
    · obtain ⟨i, i1, i2, i3⟩ := cross p Rs Rt
      obtain ⟨p1, p2, p3, p4⟩ := p.2.2 i i1
      obtain ⟨b1, b2⟩ := (uz_bit h24 p1).mp p2
      have g := CC_ge (σ := σ) (R := R) (c := cp σ) (i := ls i) (by rw [p3]; exact i2) (by rw [p4]; exact i3) (lkn σ) p1 cb
      have ec : cp σ (ls i) = lk_av σ (ls i) := if_pos b2
      rw [ec] at g
      rw [lt_i] at b1
      omega
  have WF : (fx_widest_r σ s t).toInt ≤ CC σ R (cp σ) (lkn σ) := by
    rcases w2 with a | ⟨a, _⟩
    · rw [a, z0]; exact F0
    · exact over _ w1 a
  have W999 : (fx_widest_r σ s t).toInt ≤ 999 := by
    rcases w2 with a | ⟨_, k, k1, k2⟩
    · rw [a]; decide
    · obtain ⟨a1, a2, a3, a4⟩ := av_of hx j k1
      have := ca' k k1
      rw [k2]; omega
  -- if no link way has a unit, nothing flows
  have none' : (fx_widest_r σ s t).toInt ≤ 0 → CC σ R (cp σ) (lkn σ) ≤ 0 := fun z => by
    have nr : ¬ RR σ s t 1 := fun y => by have := w3 1 y; rw [i1'] at this; omega
    obtain ⟨c1, c2⟩ := reach_clo (w := uz σ 1) B hs
    obtain ⟨R0, hR0⟩ : ∃ R0 : Nat → Bool, R0 = fun y => bit (pt_reach_r σ (lkn σ) (nI s) (uz σ 1)) y := ⟨_, rfl⟩
    have r1 : R0 s = true := by rw [hR0]; exact c1
    have r2 : R0 t = false := by rw [hR0]; exact Bool.eq_false_iff.mpr nr
    rw [← filled, ← flow_cut B q5 hs Rs Rt, flow_cut B q5 hs r1 r2]
    refine Int.le_trans (XV_le (c := cp σ) (lkn σ) Qc) (CC_none (lkn σ) (fun k hk a b => ?_))
    unfold cp
    split
    · rename_i up
      refine Classical.byContradiction fun y => ?_
      have av1 : ¬ lk_av σ k < 1 := fun x => by rw [lt_i, i1'] at x; omega
      have := c2 k hk ((uz_bit h24 hk).mpr ⟨av1, up⟩) (by rw [hR0] at a; exact a)
      rw [hR0] at b
      have b' : bit (pt_reach_r σ (lkn σ) (nI s) (uz σ 1)) (bf_g σ k) = false := b
      rw [this] at b'; exact absurd b' (by decide)
    · decide
  rw [← hF] at WF none' F0
  refine ⟨?_, ?_, ?_, ?_, ?_, ?_, ?_⟩
  · rw [eF, eC]
    apply Int32.toInt_inj.mp
    rw [hF, ← h9]
    refine cut_sum h24 (fun k hk => ?_) cb (lkn σ) (Nat.le_refl _)
    have cbits := cut_bits (σ := σ) (s := s) (t := t) (φ := φ) (R := R) B (fun y _ => by rw [q1, hR]) (lkn σ) (Nat.le_refl _) k (by omega)
    unfold fx_smallestCut_r
    rw [bit_and, cbits, decide_eq_true hk, Bool.true_and]
  · rw [eF, eW, le_i]; exact WF
  · rw [eF, eW, lt_i, lt_i, z0]
    constructor
    · intro z; omega
    · intro z
      refine Classical.byContradiction fun y => ?_
      have := none' (by omega)
      omega
  · rw [eF, eD, le_i, hF]
    have hr1 : ∀ k, k < lkn σ → fl_one φ (uz σ 1) 1 k = if bit (uz σ 1) k = true then 1 else 0 := fun k hk => one_cp (by omega)
    obtain ⟨Q1, d1, d2, d3, d4, d5, d6, _⟩ := fl_res (φ := fl_one φ (uz σ 1)) B (fun k hk => by rw [hr1 k hk]; split <;> decide) W.cr.ln W.cr.nn hs ht hst
    have e : (fx_disjointPaths_r φ σ s t 1).toInt = Vf σ s (Q1 2) (lkn σ) := d2
    rw [e, flow_cut B d5 hs Rs Rt]
    refine XV_le (lkn σ) (fun k hk => ?_)
    obtain ⟨a1, a2, _⟩ := d5.1 k hk
    have cc := cb k hk
    refine ⟨a1, ?_⟩
    rw [d6, hr1 k hk] at a2
    by_cases b : bit (uz σ 1) k = true
    · rw [if_pos b, i1'] at a2
      obtain ⟨b1, b2⟩ := (uz_bit h24 hk).mp b
      have ec : cp σ k = lk_av σ k := if_pos b2
      rw [lt_i, i1'] at b1
      rw [ec] at cc ⊢
      omega
    · rw [if_neg b, z0] at a2
      omega
  · rw [eW]; exact W999
  · rw [eW]
    intro wp
    rw [lt_i, z0] at wp
    have rW : RR σ s t (fx_widest_r σ s t) := by
      rcases w2 with a | ⟨a, _⟩
      · rw [a, z0] at wp; omega
      · exact a
    rw [eH, eH, eH, eN, eT]
    refine ⟨?_, ?_, le_i.mpr (hold_le wt hs ht hst rW)⟩
    · rcases way4 wt hs ht hst (fx_widest_r σ s t) with ⟨_, a, _⟩ | ⟨n, ls, np, n1, n11, _, _, _, _, p, c1, c2, c3⟩
      · exact absurd rW a
      · have p0 : Pth σ (uz σ 0) (lkn σ) s t n ls np := p.mono (fun k hk b => by
          obtain ⟨b1, b2⟩ := (uz_bit h24 hk).mp b
          exact (uz_bit h24 hk).mpr ⟨fun x => by rw [lt_i] at b1 x; rw [z0] at x; omega, b2⟩)
        rcases way4 wt hs ht hst 0 with ⟨_, _, a⟩ | ⟨n', ls', np', n1', n11', _, _, _, _, p', c1', c2', c3'⟩
        · exact absurd p0 (a n ls np n11)
        · have := c3' n ls np p0
          rw [c1, c1']
          exact (nI_leI (by omega) (by omega)).mpr (by omega)
    · have ew : (fx_widest_r σ s t + 1).toInt = (fx_widest_r σ s t).toInt + 1 := by rw [i_add (by rw [i1']; omega) (by rw [i1']; omega), i1']
      rcases way4 wt hs ht hst (fx_widest_r σ s t + 1) with ⟨a, _, _⟩ | ⟨_, _, _, _, _, rr, _⟩
      · exact a
      · have := w3 _ rr
        omega
  · rw [eH, eR]
    have er : fx_reachable_r σ s 1 = pt_reach_r σ (lkn σ) (nI s) (uz σ 1) := rfl
    rw [er, bit_eq (by omega)]
    rcases way4 wt hs ht hst 1 with ⟨a, b, _⟩ | ⟨n, ls, np, _, _, rr, _, _, _, _, c1, c2, _⟩
    · rw [a]
      have b' : ¬ bit (pt_reach_r σ (lkn σ) (nI s) (uz σ 1)) t = true := b
      rw [if_neg b']
      exact ⟨fun z => absurd z (by decide), fun z => absurd z (by decide)⟩
    · rw [c1]
      have rr' : bit (pt_reach_r σ (lkn σ) (nI s) (uz σ 1)) t = true := rr
      rw [if_pos rr']
      exact ⟨fun _ => rfl, fun _ => (nI_leI (a := 0) (by decide) (by omega)).mpr (by omega)⟩
end ISG
