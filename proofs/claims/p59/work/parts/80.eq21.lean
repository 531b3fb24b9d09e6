/-! A REQUEST TREATED ON BOTH SIDES -/
theorem now_ne {σ : pr_I} {d : Int32} (h : Ti σ) (h1 : 1 ≤ d.toInt) (h2 : d.toInt ≤ 100000) : σ 0 7 + d ≠ σ 0 7 := fun e => by
  have := h.1
  have := h.2
  have e2 := i_add (a := σ 0 7) (b := d) (by omega) (by omega)
  rw [e] at e2
  omega
theorem m1_ne {σ : pr_I} (h : Ti σ) : ¬ (-1 : Int32) = σ 0 7 := fun e => by
  have := h.1
  rw [← e] at this
  exact absurd this (by decide)
noncomputable def w_t1 (σ : pr_I) (r : Nat) : pr_I := if σ 23 r = (7 : Int32) then w_beg σ r else if σ 23 r = 0 then w_f1 σ r else w_b1 σ r
noncomputable def m_t1 (μ : pr_I) (r : Nat) : pr_I := if μ 1 (264 + 28 * r + 4) = (7 : Int32) then m_at μ r else if μ 1 (264 + 28 * r + 4) = 0 then m_fw μ r else m_bk μ r
theorem w_it_s {σ : pr_I} {r k : Nat} : w_tr_it2 σ r (k + 1) = if (w_tr_it2 σ r k) 25 r = σ 0 7 then w_t1 (w_tr_it2 σ r k) r else w_tr_it2 σ r k := by
  rw [w_tr_it2]; rfl
theorem m_it_s {μ : pr_I} {r k : Nat} : m_tr_it0 μ r (k + 1) = if (m_tr_it0 μ r k) 1 (264 + 28 * r + 6) = μ 1 0 then m_t1 (m_tr_it0 μ r k) r else m_tr_it0 μ r k := by
  rw [m_tr_it0]; rfl
/-- what one turn's calls ask -/
def m_t1ok (μ : pr_I) (r : Nat) : Prop := (μ 1 (264 + 28 * r + 4) = (7 : Int32) → m_at_ok μ r) ∧ (μ 1 (264 + 28 * r + 4) = 0 → ¬ μ 1 (264 + 28 * r + 14) = μ 1 (264 + 28 * r + 13) → vp_in (μ 1 (264 + 28 * r + 14)) 11) ∧ (¬ μ 1 (264 + 28 * r + 4) = (7 : Int32) → ¬ μ 1 (264 + 28 * r + 4) = 0 → vp_in (m_tof_r μ r (μ 1 (264 + 28 * r + (15 + ((μ 1 (264 + 28 * r + 14)).toNatClampNeg - 1))))) 500)
theorem Wd.st {σ μ : pr_I} (h : Wd σ μ) {r : Nat} (hr : r < rqn σ) (hd : σ 25 r = σ 0 7) : σ 23 r = 0 ∨ σ 23 r = 1 ∨ σ 23 r = 7 := by
  exact Classical.byContradiction (fun q => m1_ne h.ti (((h.sr hr).2.2.1 q).symm.trans hd))
theorem Wd.turn {σ μ : pr_I} (h : Wd σ μ) {r : Nat} (hr : r < rqn σ) (hd : σ 25 r = σ 0 7) : Wd (w_t1 σ r) (m_t1 μ r) ∧ m_t1ok μ r := by
  have e4 : σ 23 r = μ 1 (264 + 28 * r + 4) := h.cr.req hr (c := 4) (by decide)
  have hs := h.st hr hd
  unfold w_t1 m_t1 m_t1ok
  rw [← e4]
  by_cases c7 : σ 23 r = 7
  · rw [if_pos c7, if_pos c7]
    have b := h.beg hr hd (fun _ _ _ => rfl) h.cr.m
    exact ⟨b.1, fun _ => b.2, fun z => by rw [c7] at z; exact absurd z (by decide), fun z => absurd c7 z⟩
  · rw [if_neg c7, if_neg c7]
    by_cases c0 : σ 23 r = 0
    · rw [if_pos c0, if_pos c0]
      have b := h.f1 hr c0
      exact ⟨b.1, fun z => absurd z c7, fun _ => b.2, fun _ z => absurd c0 z⟩
    · rw [if_neg c0, if_neg c0]
      have c1 : σ 23 r = 1 := (hs.resolve_left c0).resolve_right c7
      have b := h.b1 hr c1
      exact ⟨b.1, fun z => absurd z c7, fun z => absurd z c0, fun _ _ => b.2⟩
/-- a turn behind which the request is not due now -/
def Near (σ : pr_I) (r : Nat) : Prop := (σ 23 r = 0 ∧ (σ 33 r).toNatClampNeg < (σ 32 r).toNatClampNeg) ∨ σ 23 r = 1
theorem fail_due {σ μ : pr_I} (h : Wd σ μ) {n r : Nat} {x : Int32} : ¬ (w_fail σ n r x) 25 r = σ 0 7 := by
  rw [fail_25, if_pos rfl]
  split
  · exact now_ne h.ti h.se.2.1.1 (by have := h.se.2.1.2; omega)
  · exact m1_ne h.ti
theorem beg_near {σ : pr_I} {r : Nat} (hI : wI σ) (ht : Ti σ) : ¬ (w_beg σ r) 25 r = σ 0 7 ∨ Near (w_beg σ r) r := by
  have hl := pt_len_le (s := σ 19 r) (t := σ 20 r) (u := (σ 1 7) &&& ((σ 28 r) ^^^ ((-1) : Int32))) (wI_nl24 hI) hI
  unfold w_beg
  generalize hn : pt_len σ (lkn σ) (σ 19 r) (σ 20 r) ((σ 1 7) &&& ((σ 28 r) ^^^ ((-1) : Int32))) = n at *
  by_cases c : nI n = 0
  · rw [if_pos c]
    refine Or.inl ?_
    unfold w_settle
    rw [pr_upe]; exact m1_ne ht
  · rw [if_neg c]
    refine Or.inr (Or.inl ⟨pr_upe, ?_⟩)
    rw [pr_upv (show (33 : Nat) ≠ 23 by decide), pr_upe, pr_upv (show (32 : Nat) ≠ 23 by decide), pr_upv (show (32 : Nat) ≠ 33 by decide), pr_upe, nI_clamp (by omega)]
    have : n ≠ 0 := fun z => c (by rw [z]; rfl)
    show 0 < n
    omega
theorem f1_near {σ μ : pr_I} (h : Wd σ μ) {r : Nat} (hr : r < rqn σ) (hs : σ 23 r = 0) : ((σ 33 r).toNatClampNeg < (σ 32 r).toNatClampNeg → ¬ (w_f1 σ r) 25 r = σ 0 7) ∧ (¬ (σ 33 r).toNatClampNeg < (σ 32 r).toNatClampNeg → (w_f1 σ r) 23 r = 1) := by
  have hP := (h.sr hr).2.1 (Or.inl hs)
  have hL := vp_in_lt (h.cr.w 32 r 12 rfl)
  have hpv : σ 33 r = nI (σ 33 r).toNatClampNeg := vp_nI (h.cr.w 33 r 12 rfl) (by decide)
  have hlv : σ 32 r = nI (σ 32 r).toNatClampNeg := vp_nI (h.cr.w 32 r 12 rfl) (by decide)
  have hle := hP.1
  have c1 : (σ 33 r < σ 32 r) ↔ (σ 33 r).toNatClampNeg < (σ 32 r).toNatClampNeg := by
    rw [hpv, hlv, nI_ltI (by omega) (by omega), nI_clamp (by omega), nI_clamp (by omega)]
  refine ⟨fun q => ?_, fun q => ?_⟩
  · have q1 := c1.mpr q
    have hpa := h.pa r (σ 33 r).toNatClampNeg hr q
    have h24 := wI_nl24 h.cr.w
    have nx := vin_m1 hpa.2 (by omega)
    have hd := (h.lk _ (vp_in_lt hpa.2)).2.2.2.2.1
    unfold w_f1
    by_cases b1 : lk_ux_r σ (σ (35 + r) (σ 33 r).toNatClampNeg) = 0
    · obtain ⟨w1, w2⟩ := fwd_bad (n := tkn σ) q1 (Or.inl b1)
      rw [w1, w2, if_neg nx]; exact fail_due h
    by_cases b2 : lk_ax_r σ (σ (35 + r) (σ 33 r).toNatClampNeg) < σ 21 r
    · obtain ⟨w1, w2⟩ := fwd_bad (n := tkn σ) q1 (Or.inr b2)
      rw [w1, w2, if_neg nx]; exact fail_due h
    by_cases b3 : σ 9 8 < 500
    · obtain ⟨w1, w2⟩ := fwd_go (n := tkn σ) q1 b1 b2 b3
      rw [w1, w2, if_pos rfl, pr_upe]
      exact now_ne h.ti hd.1 (by omega)
    · obtain ⟨w1, w2⟩ := fwd_full (n := tkn σ) q1 b1 b2 b3
      rw [w1, w2, if_neg nx]; exact fail_due h
  · have q1 : ¬ σ 33 r < σ 32 r := fun z => q (c1.mp z)
    have w1 : w_fwd_r σ (tkn σ) r = -1 := by unfold w_fwd_r; rw [if_neg q1]
    have w2 : w_fwd σ (tkn σ) r = pr_up σ 23 r 1 := by unfold w_fwd; rw [if_neg q1]
    unfold w_f1
    rw [w1, w2, if_pos rfl, pr_upe]
theorem b1_near {σ μ : pr_I} (h : Wd σ μ) {r : Nat} (hr : r < rqn σ) (hs : σ 23 r = 1) : ¬ (w_b1 σ r) 25 r = σ 0 7 := by
  have hP := (h.sr hr).2.1 (Or.inr hs)
  have hL := vp_in_lt (h.cr.w 32 r 12 rfl)
  have h24 := wI_nl24 h.cr.w
  have hpv : σ 33 r = nI (σ 33 r).toNatClampNeg := vp_nI (h.cr.w 33 r 12 rfl) (by decide)
  have hle := hP.1
  unfold w_b1
  by_cases q0 : (σ 33 r).toNatClampNeg = 0
  · have z : σ 33 r = 0 := by rw [hpv, q0]; rfl
    obtain ⟨w1, w2⟩ := back_0 (σ := σ) (r := r) z
    rw [w1, w2, if_pos rfl]
    unfold w_settle
    rw [pr_upe]; exact m1_ne h.ti
  · obtain ⟨q, hq⟩ : ∃ q, (σ 33 r).toNatClampNeg = q + 1 := ⟨(σ 33 r).toNatClampNeg - 1, by omega⟩
    have z : σ 33 r = nI (q + 1) := by rw [hpv, hq]
    have hpa := h.pa r q hr (by omega)
    have hd := (h.lk _ (vp_in_lt hpa.2)).2.2.2.2.1
    obtain ⟨w1, w2⟩ := back_s (σ := σ) (r := r) z (by omega)
    rw [w1, w2]
    by_cases c : σ 15 (σ (76 + r) q).toNatClampNeg = 0
    · rw [if_pos c, if_pos c, if_pos rfl, pr_upe]
      exact now_ne h.ti hd.1 (by omega)
    · rw [if_neg c, if_neg c, if_neg (vin_m1 hpa.2 (by omega))]; exact fail_due h
theorem t1_near {σ μ : pr_I} (h : Wd σ μ) {r : Nat} (hr : r < rqn σ) (hd : σ 25 r = σ 0 7) : (¬ (w_t1 σ r) 25 r = σ 0 7 ∨ Near (w_t1 σ r) r) ∧ (Near σ r → ¬ (w_t1 σ r) 25 r = σ 0 7) := by
  have hs := h.st hr hd
  unfold w_t1
  by_cases c7 : σ 23 r = 7
  · rw [if_pos c7]
    refine ⟨beg_near h.cr.w h.ti, fun z => ?_⟩
    unfold Near at z
    rw [c7] at z
    rcases z with ⟨z, _⟩ | z <;> exact absurd z (by decide)
  · rw [if_neg c7]
    by_cases c0 : σ 23 r = 0
    · rw [if_pos c0]
      have b := f1_near h hr c0
      by_cases q : (σ 33 r).toNatClampNeg < (σ 32 r).toNatClampNeg
      · exact ⟨Or.inl (b.1 q), fun _ => b.1 q⟩
      · refine ⟨Or.inr (Or.inr (b.2 q)), fun z => ?_⟩
        rcases z with ⟨_, z⟩ | z
        · exact absurd z q
        · rw [c0] at z; exact absurd z (by decide)
    · rw [if_neg c0]
      have c1 : σ 23 r = 1 := (hs.resolve_left c0).resolve_right c7
      have b := b1_near h hr c1
      exact ⟨Or.inl b, fun _ => b⟩
