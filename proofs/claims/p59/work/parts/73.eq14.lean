section OUT
variable {σ μ : pr_I} {u v t : Int32} {nl nn : Nat}
/-- round by round, both the same -/
theorem lock41 (B : BL σ μ nl nn) (hu : HU u v nl) (ht : vp_in t nn) (hl : mln μ = nl) (hnn : mnn μ = nn) : ∀ k, LSb nn (pt_meas_it41 σ nl t u k).1 (m_lp_it51 μ t v k).1 ∧ (m_lp_it51 μ t v k).1 1 = μ 1 ∧ (pt_meas_it41 σ nl t u k).2 = (m_lp_it51 μ t v k).2 ∧ ((pt_meas_it41 σ nl t u k).2 = nI 1 ∨ ((pt_meas_it41 σ nl t u k).2 = nI 0 ∧ ∃ k', pt_meas_it59 σ (pt_meas_it41 σ nl t u k).1 nl t u k' nl = ((pt_meas_it41 σ nl t u k).1, nI 0)))
  | 0 => by
    have h0 := (lock0 (σ := σ) (μ := μ) (u := u) (v := v) (nl := nl) B.2.1 ht).1
    refine ⟨?_, ?_, rfl, Or.inl rfl⟩
    · show LSb nn (pt_meas_it3 σ nl t u (sl 12)) (pr_up (pr_up (m_lp_it2 μ t v (mnn μ)) 8 t.toNatClampNeg (0 : Int32)) 9 t.toNatClampNeg (0 : Int32))
      rw [hnn]; exact h0
    · show (pr_up (pr_up (m_lp_it2 μ t v (mnn μ)) 8 t.toNatClampNeg (0 : Int32)) 9 t.toNatClampNeg (0 : Int32)) 1 = μ 1
      rw [up89, fr_m_lp_it2 (by decide)]
  | k + 1 => by
    obtain ⟨i1, i2, i3, i4⟩ := lock41 B hu ht hl hnn k
    by_cases c : (pt_meas_it41 σ nl t u k).2 = 0
    · have e1 : pt_meas_it41 σ nl t u (k + 1) = pt_meas_it41 σ nl t u k := by rw [pt_meas_it41, if_pos c]
      have e2 : m_lp_it51 μ t v (k + 1) = m_lp_it51 μ t v k := by rw [m_lp_it51, if_pos (i3.symm.trans c)]
      rw [e1, e2]; exact ⟨i1, i2, i3, i4⟩
    · have e1 : pt_meas_it41 σ nl t u (k + 1) = pt_meas_it59 σ (pt_meas_it41 σ nl t u k).1 nl t u k nl := by rw [pt_meas_it41]; exact if_neg c
      have e2 : m_lp_it51 μ t v (k + 1) = m_lp_it60 μ (m_lp_it51 μ t v k).1 t v k nl := by rw [m_lp_it51, hl]; exact if_neg (fun q => c (i3.trans q))
      obtain ⟨j1, j2, j3, j4⟩ := lock1 (t := t) (k := k) (t' := t) (k' := k) B hu i1 i2 nl (Nat.le_refl _)
      rw [e1, e2]
      refine ⟨j1, j2, j3, ?_⟩
      rcases j4 with ⟨q1, q2, _⟩ | ⟨q, _⟩
      · refine Or.inr ⟨q1, k, ?_⟩
        rw [q2]
        exact Prod.ext q2 q1
      · exact Or.inl q
theorem outE (B : BL σ μ nl nn) (hu : HU u v nl) (ht : vp_in t nn) (hl : mln μ = nl) (hnn : mnn μ = nn) (k : Nat) : ∃ d, Rn (bf_al u) (bf_f σ) (bf_g σ) (bf_w σ) nl d ∧ d 0 = bf_D (pt_meas_it41 σ nl t u k).1 ∧ d nl = bf_D (pt_meas_it41 σ nl t u (k + 1)).1 := by
  obtain ⟨i1, i2, i3, i4⟩ := lock41 B hu ht hl hnn k
  by_cases c : (pt_meas_it41 σ nl t u k).2 = 0
  · have e1 : pt_meas_it41 σ nl t u (k + 1) = pt_meas_it41 σ nl t u k := by rw [pt_meas_it41, if_pos c]
    rcases i4 with q | ⟨_, k', q⟩
    · rw [c] at q; exact absurd q (by decide)
    · refine ⟨_, lock2 (t := t) (k := k') (t' := t) (k' := k) B hu i1 i2, rfl, ?_⟩
      show bf_D (pt_meas_it59 σ (pt_meas_it41 σ nl t u k).1 nl t u k' nl).1 = _
      rw [q, e1]
  · have e1 : pt_meas_it41 σ nl t u (k + 1) = pt_meas_it59 σ (pt_meas_it41 σ nl t u k).1 nl t u k nl := by rw [pt_meas_it41]; exact if_neg c
    refine ⟨_, lock2 (t := t) (k := k) (t' := t) (k' := k) B hu i1 i2, rfl, ?_⟩
    rw [e1]
/-- a round that betters nothing is the last -/
theorem last1 {k T : Nat} (B : BL σ μ nl nn) (hu : HU u v nl) (ht : vp_in t nn) (hl : mln μ = nl) (hnn : mnn μ = nn) (hb : ∀ k, k < nl → bf_f σ k < 12 ∧ bf_g σ k < 12) (F1 : ∀ x, x < 12 → bf_D (pt_meas_it41 σ nl t u k).1 x ≤ 1000000000) (F2 : Qt (bf_al u) (bf_f σ) (bf_g σ) (bf_w σ) nl T (bf_D (pt_meas_it41 σ nl t u k).1)) (F3 : ∀ x, x < 12 → bf_D (pt_meas_it41 σ nl t u k).1 x < 1000000000 → bf_D (pt_meas_it41 σ nl t u k).1 x < T) : m_lp_it51 μ t v (k + 1) = ((m_lp_it51 μ t v k).1, nI 0) := by
  obtain ⟨i1, i2, i3, i4⟩ := lock41 B hu ht hl hnn k
  by_cases c : (pt_meas_it41 σ nl t u k).2 = 0
  · have e2 : m_lp_it51 μ t v (k + 1) = m_lp_it51 μ t v k := by rw [m_lp_it51, if_pos (i3.symm.trans c)]
    exact e2.trans (Prod.ext rfl (i3.symm.trans c))
  · have e2 : m_lp_it51 μ t v (k + 1) = m_lp_it60 μ (m_lp_it51 μ t v k).1 t v k nl := by rw [m_lp_it51, hl]; exact if_neg (fun q => c (i3.trans q))
    obtain ⟨j1, j2, j3, j4⟩ := lock1 (t := t) (k := k) (t' := t) (k' := k) B hu i1 i2 nl (Nat.le_refl _)
    have r := lock2 (t := t) (k := k) (t' := t) (k' := k) B hu i1 i2
    have fx := r.fix hb F2 F1 F3
    rcases j4 with ⟨q1, q2, q3⟩ | ⟨_, i, x, q1, q2⟩
    · exact e2.trans (Prod.ext q3 (j3.symm.trans q1))
    · have y1 := fx (i + 1) (by omega) x
      have y2 := fx i (by omega) x
      have y3 : bf_D (pt_meas_it59 σ (pt_meas_it41 σ nl t u k).1 nl t u k (i + 1)).1 x = bf_D (pt_meas_it59 σ (pt_meas_it41 σ nl t u k).1 nl t u k i).1 x := y1.trans y2.symm
      omega
/-- what the labels are in the end -/
theorem meas (B : BL σ μ nl nn) (hu : HU u v nl) (ht : vp_in t nn) (hl : mln μ = nl) (hnn : mnn μ = nn) : LSb nn (pt_meas σ nl t u) (m_lp μ t v) ∧ (m_lp μ t v) 1 = μ 1 ∧ m_lp_it51_e μ t v (sl 13) = true ∧ (∀ k, k < nl → bf_al u k → bf_D (pt_meas σ nl t u) (bf_f σ k) ≤ bf_D (pt_meas σ nl t u) (bf_g σ k) + bf_w σ k) ∧ Tg (bf_al u) (bf_f σ) (bf_g σ) (bf_w σ) nl t.toNatClampNeg 1000000000 (bf_D (pt_meas σ nl t u)) ∧ bf_D (pt_meas σ nl t u) t.toNatClampNeg = 0 := by
  have hw : ∀ k, k < nl → 1 ≤ bf_w σ k := fun k _ => by unfold bf_w; omega
  have hn12 := B.2.1
  have hb : ∀ k, k < nl → bf_f σ k < 12 ∧ bf_g σ k < 12 := fun k hk => by
    have b1 := vp_in_lt (B.2.2 k hk).1
    have b2 := vp_in_lt (B.2.2 k hk).2.1
    unfold bf_f bf_g; omega
  have L0 := lock0 (σ := σ) (μ := μ) (u := u) (v := v) (nl := nl) B.2.1 ht
  obtain ⟨F1, T, F2, F3⟩ := rounds12 (F := 1000000000) (E := fun k => bf_D (pt_meas_it41 σ nl t u k).1) hw hb (fun k _ => outE B hu ht hl hnn k) (fun x hx => ((lock41 B hu ht hl hnn 0).1.le hx hn12).1)
  have TT : ∀ k, Tg (bf_al u) (bf_f σ) (bf_g σ) (bf_w σ) nl t.toNatClampNeg 1000000000 (bf_D (pt_meas_it41 σ nl t u k).1) ∧ bf_D (pt_meas_it41 σ nl t u k).1 t.toNatClampNeg = 0 := by
    intro k
    induction k with
    | zero => exact ⟨fun x hx hxt hF => by have e : bf_D (pt_meas_it41 σ nl t u 0).1 x = 1000000000 := L0.2.2 x hx hxt; omega, L0.2.1⟩
    | succ k ih =>
      obtain ⟨d, r, d0, d1⟩ := outE B hu ht hl hnn k
      rw [← d0] at ih
      rw [← d1]
      refine ⟨r.tight ih.1 nl (Nat.le_refl _), ?_⟩
      have := r.anti (i := 0) (x := t.toNatClampNeg) nl (by omega) (Nat.le_refl _)
      omega
  obtain ⟨i1, i2, i3, i4⟩ := lock41 B hu ht hl hnn 12
  have ea : pt_meas σ nl t u = (pt_meas_it41 σ nl t u 12).1 := by unfold pt_meas; rw [sl_eq 12]
  have st : m_lp_it51 μ t v 13 = ((m_lp_it51 μ t v 12).1, nI 0) := last1 B hu ht hl hnn hb F1 F2 F3
  have eb : m_lp μ t v = (m_lp_it51 μ t v 12).1 := by unfold m_lp; rw [sl_eq 13, st]
  rw [ea, eb]
  refine ⟨i1, i2, ?_, fun k hk ha => ?_, (TT 12).1, (TT 12).2⟩
  · unfold m_lp_it51_e
    rw [sl_eq 13, st]; exact if_pos rfl
  · by_cases q : bf_D (pt_meas_it41 σ nl t u 12).1 (bf_g σ k) < 1000000000
    · exact F2 k hk ha (F3 _ (hb k hk).2 q)
    · have := F1 _ (hb k hk).1
      exact Nat.le_trans this (by omega)
end OUT
