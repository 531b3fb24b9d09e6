theorem fwd_bad {σ : pr_I} {n r : Nat} (c1 : σ 33 r < σ 32 r) (b : lk_ux_r σ (σ (35 + r) (σ 33 r).toNatClampNeg) = 0 ∨ lk_ax_r σ (σ (35 + r) (σ 33 r).toNatClampNeg) < σ 21 r) : w_fwd_r σ n r = σ (35 + r) (σ 33 r).toNatClampNeg ∧ w_fwd σ n r = σ := by
  have e : (if lk_ux_r σ (σ (35 + r) (σ 33 r).toNatClampNeg) = 0 then (0 : Int32) else if lk_ax_r σ (σ (35 + r) (σ 33 r).toNatClampNeg) < σ 21 r then (0 : Int32) else 1) = 0 := by
    split
    · rfl
    · rename_i q
      rw [if_pos (b.resolve_left q)]
  unfold w_fwd_r w_fwd
  rw [if_pos c1, if_pos c1, if_pos e, if_pos e]
  exact ⟨rfl, rfl⟩
theorem fwd_full {σ : pr_I} {n r : Nat} (c1 : σ 33 r < σ 32 r) (b1 : ¬ lk_ux_r σ (σ (35 + r) (σ 33 r).toNatClampNeg) = 0) (b2 : ¬ lk_ax_r σ (σ (35 + r) (σ 33 r).toNatClampNeg) < σ 21 r) (b3 : ¬ σ 9 8 < 500) : w_fwd_r σ n r = σ (35 + r) (σ 33 r).toNatClampNeg ∧ w_fwd σ n r = σ := by
  have e : ¬ (if lk_ux_r σ (σ (35 + r) (σ 33 r).toNatClampNeg) = 0 then (0 : Int32) else if lk_ax_r σ (σ (35 + r) (σ 33 r).toNatClampNeg) < σ 21 r then (0 : Int32) else 1) = 0 := by
    rw [if_neg b1, if_neg b2]; decide
  have e2 : ¬ (if σ 9 8 < 500 then (0 : Int32) else 1) = 0 := by rw [if_neg b3]; decide
  unfold w_fwd_r w_fwd
  rw [if_pos c1, if_pos c1, if_neg e, if_neg e, if_neg e2, if_neg e2]
  exact ⟨rfl, rfl⟩
theorem fwd_go {σ : pr_I} {n r : Nat} (c1 : σ 33 r < σ 32 r) (b1 : ¬ lk_ux_r σ (σ (35 + r) (σ 33 r).toNatClampNeg) = 0) (b2 : ¬ lk_ax_r σ (σ (35 + r) (σ 33 r).toNatClampNeg) < σ 21 r) (b3 : σ 9 8 < 500) : w_fwd_r σ n r = -1 ∧ w_fwd σ n r = pr_up (pr_up (pr_up (w_issue σ n r (σ (35 + r) ((σ 33 r).toNatClampNeg))) (76 + r) ((σ 33 r).toNatClampNeg) (nI n)) 33 r ((σ 33 r) + (1 : Int32))) 25 r ((σ 0 7) + (σ 6 ((σ (35 + r) ((σ 33 r).toNatClampNeg)).toNatClampNeg))) := by
  have e : ¬ (if lk_ux_r σ (σ (35 + r) (σ 33 r).toNatClampNeg) = 0 then (0 : Int32) else if lk_ax_r σ (σ (35 + r) (σ 33 r).toNatClampNeg) < σ 21 r then (0 : Int32) else 1) = 0 := by
    rw [if_neg b1, if_neg b2]; decide
  have e2 : (if σ 9 8 < 500 then (0 : Int32) else 1) = 0 := by rw [if_pos b3]
  unfold w_fwd_r w_fwd
  rw [if_pos c1, if_pos c1, if_neg e, if_neg e, if_pos e2, if_pos e2]
  exact ⟨rfl, rfl⟩
/-- one request's cell set, its path untouched -/
theorem Wd.u1 {σ μ : pr_I} (h : Wd σ μ) {r c : Nat} {v : Int32} (hr : r < rqn σ) (hc : 5 ≤ c ∧ c < 13 ∧ c ≠ 6) : Wd (pr_up σ (19 + c) r v) (pr_up μ 1 (264 + 28 * r + c) v) := by
  have h4 := wI_nr4 h.cr.w
  refine h.keep (h.cr.ureq hr (by omega) (by omega)) (fun o ho => pr_up_ne ?_) (fun r' _ => pr_up_ne (by omega)) (fun j hj => ?_) (fun r' hr' => ?_)
  · simp only [List.mem_cons, List.not_mem_nil, or_false] at ho; omega
  · unfold kp at hj; rw [pr_upk (by omega)]
  · exact (h.sr hr').of (pr_up_ne (by omega)) (pr_up_ne (by omega)) (pr_up_ne (by omega)) (pr_up_ne (by omega)) (by rw [pr_up_ne (by omega)]) (pr_up_ne (by omega)) (pr_up_ne (by omega)) (by rw [pr_up_ne (by omega)]) (by rw [pr_up_ne (by omega)])
/-- state and due of a request set -/
theorem Wd.us {σ μ : pr_I} (h : Wd σ μ) {r : Nat} {s : Int32} (hr : r < rqn σ) (hs : vp_in s 8) (hP : s = 0 ∨ s = 1 → Pt σ r) (hd : s = 0 ∨ s = 1 ∨ s = 7) (hQ : s = 1 → Pk σ r) : Wd (pr_up σ 23 r s) (pr_up μ 1 (264 + 28 * r + 4) s) := by
  have h4 := wI_nr4 h.cr.w
  refine h.keep (h.cr.ureq (c := 4) hr (by decide) (by decide)) (fun o ho => pr_up_ne ?_) (fun r' _ => pr_up_ne (by omega)) (fun j hj => ?_) (fun r' hr' => ?_)
  · simp only [List.mem_cons, List.not_mem_nil, or_false] at ho; omega
  · unfold kp at hj; rw [pr_upk (by omega)]
  · by_cases q : r' = r
    · subst q
      unfold Sr
      rw [show pr_up σ 23 r' s 23 r' = s from pr_upe]
      refine ⟨hs, fun z => (hP z).of (pr_up_ne (by omega)) (pr_up_ne (by omega)) (pr_up_ne (by omega)) (pr_up_ne (by omega)) (by rw [pr_up_ne (by omega)]) (pr_up_ne (by omega)) (pr_up_ne (by omega)), fun z => absurd hd z, fun z => ?_⟩
      unfold Pk tkn
      rw [pr_up_ne (by omega), pr_up_ne (by omega), pr_up_ne (by omega), pr_up_ne (by omega)]
      exact hQ z
    · exact (h.sr hr').of (pr_up_ne (by omega)) (pr_up_ne (by omega)) (pr_up_ne (by omega)) (pr_up_ne (by omega)) (by rw [pr_up_ne (by omega)]) (pr_up_ne (by omega)) (pr_up_ne (by omega)) (pr_upk q) (by rw [pr_up_ne (by omega)])
theorem Wd.use {σ μ : pr_I} (h : Wd σ μ) {r : Nat} {s : Int32} (hr : r < rqn σ) (hs : vp_in s 8) (hd : ¬ (s = 0 ∨ s = 1)) : Wd (w_settle σ r s) (pr_up (pr_up μ 1 (264 + 28 * r + 4) s) 1 (264 + 28 * r + 6) (-1)) := by
  have h4 := wI_nr4 h.cr.w
  unfold w_settle
  refine h.keep ((h.cr.ureq (c := 4) hr (by decide) (by decide)).ureq (c := 6) hr (by decide) (by decide)) (fun o ho => ?_) (fun r' _ => ?_) (fun j hj => ?_) (fun r' hr' => ?_)
  · simp only [List.mem_cons, List.not_mem_nil, or_false] at ho
    rw [pr_up_ne (by omega), pr_up_ne (by omega)]
  · rw [pr_up_ne (by omega), pr_up_ne (by omega)]
  · unfold kp at hj; rw [pr_upk (by omega), pr_upk (by omega)]
  · have k : ∀ o, o ≠ 23 → o ≠ 25 → pr_up (pr_up σ 23 r s) 25 r (-1) o = σ o := fun o a b => by rw [pr_up_ne b, pr_up_ne a]
    by_cases q : r' = r
    · subst q
      unfold Sr
      rw [show pr_up (pr_up σ 23 r' s) 25 r' (-1) 23 r' = s by rw [pr_upv (by decide), pr_upe], show pr_up (pr_up σ 23 r' s) 25 r' (-1) 25 r' = -1 from pr_upe]
      exact ⟨hs, fun z => absurd z hd, fun z => rfl, fun z => absurd (Or.inr z) hd⟩
    · exact (h.sr hr').of (k _ (by omega) (by omega)) (k _ (by omega) (by omega)) (k _ (by omega) (by omega)) (k _ (by omega) (by omega)) (by rw [k _ (by omega) (by omega)]) (k _ (by omega) (by omega)) (k _ (by omega) (by omega)) (by rw [pr_upv (by decide), pr_upk q]) (by rw [pr_upk q, pr_upv (by decide)])
/-- one move forward on both sides -/
theorem Wd.f1 {σ μ : pr_I} (h : Wd σ μ) {r : Nat} (hr : r < rqn σ) (hs : σ 23 r = 0) : Wd (w_f1 σ r) (m_fw μ r) ∧ (¬ μ 1 (264 + 28 * r + 14) = μ 1 (264 + 28 * r + 13) → vp_in (μ 1 (264 + 28 * r + 14)) 11) := by
  have h4 := wI_nr4 h.cr.w
  have hP := (h.sr hr).2.1 (Or.inl hs)
  have hL := vp_in_lt (h.cr.w 32 r 12 rfl)
  have hpv : σ 33 r = nI (σ 33 r).toNatClampNeg := vp_nI (h.cr.w 33 r 12 rfl) (by decide)
  have hlv : σ 32 r = nI (σ 32 r).toNatClampNeg := vp_nI (h.cr.w 32 r 12 rfl) (by decide)
  have hle := hP.1
  have e13 : σ 32 r = μ 1 (264 + 28 * r + 13) := h.cr.req hr (c := 13) (by decide)
  have e14 : σ 33 r = μ 1 (264 + 28 * r + 14) := h.cr.req hr (c := 14) (by decide)
  have e2 : σ 21 r = μ 1 (264 + 28 * r + 2) := h.cr.req hr (c := 2) (by decide)
  rw [← e13, ← e14]
  have c1 : (σ 33 r < σ 32 r) ↔ (σ 33 r).toNatClampNeg < (σ 32 r).toNatClampNeg := by
    rw [hpv, hlv, nI_ltI (by omega) (by omega), nI_clamp (by omega), nI_clamp (by omega)]
  have c2 : (σ 33 r = σ 32 r) ↔ (σ 33 r).toNatClampNeg = (σ 32 r).toNatClampNeg := by
    constructor
    · intro e; rw [e]
    · intro e; rw [hpv, hlv, e]
  refine ⟨?_, fun z => ?_⟩
  · by_cases q : (σ 33 r).toNatClampNeg < (σ 32 r).toNatClampNeg
    · have q1 := c1.mpr q
      have hpa := h.pa r (σ 33 r).toNatClampNeg hr q
      have q2 : ¬ σ 33 r = σ 32 r := fun e => by have := c2.mp e; omega
      have eM : m_fw μ r = (if (μ 1 (96 + 7 * (σ (35 + r) (σ 33 r).toNatClampNeg).toNatClampNeg + 5)) = 0 then (m_fa μ r (σ (35 + r) (σ 33 r).toNatClampNeg)) else (if (m_ax_r μ (mtn μ) (σ (35 + r) (σ 33 r).toNatClampNeg)) < (σ 21 r) then (m_fa μ r (σ (35 + r) (σ 33 r).toNatClampNeg)) else (if (nI (mtn μ)) < (nI 500) then (m_go (m_is μ r (σ (35 + r) (σ 33 r).toNatClampNeg)) r ((σ 33 r) + (1 : Int32)) (σ (35 + r) (σ 33 r).toNatClampNeg)) else (m_fa μ r (σ (35 + r) (σ 33 r).toNatClampNeg))))) := by
        unfold m_fw
        rw [← e13, ← e14, if_neg q2, ← e2, ← hpa.1]
      have hx := hpa.2
      have hxl := vp_in_lt hx
      have h24 := wI_nl24 h.cr.w
      rw [eM, ← ax_eq h.cr hx, ← h.up _ hxl, h.cr.tn, ← wI_n h.cr.w]
      unfold w_f1
      have F : Wd (w_fail σ (tkn σ) r (σ (35 + r) (σ 33 r).toNatClampNeg)) (m_fa μ r (σ (35 + r) (σ 33 r).toNatClampNeg)) := h.fail rfl hr hx
      have nx := vin_m1 hx (by omega)
      have u := lk_ux_eq (σ := σ) hx (by omega)
      by_cases b1 : lk_ux_r σ (σ (35 + r) (σ 33 r).toNatClampNeg) = 0
      · obtain ⟨w1, w2⟩ := fwd_bad (n := tkn σ) q1 (Or.inl b1)
        rw [w1, w2, if_neg nx, if_pos (Eq.mp u b1)]; exact F
      rw [if_neg (fun z => b1 (Eq.mpr u z))]
      by_cases b2 : lk_ax_r σ (σ (35 + r) (σ 33 r).toNatClampNeg) < σ 21 r
      · obtain ⟨w1, w2⟩ := fwd_bad (n := tkn σ) q1 (Or.inr b2)
        rw [w1, w2, if_neg nx, if_pos b2]; exact F
      rw [if_neg b2]
      by_cases b3 : σ 9 8 < 500
      · obtain ⟨w1, w2⟩ := fwd_go (n := tkn σ) q1 b1 b2 b3
        have b3' : σ 9 8 < nI 500 := b3
        rw [w1, w2, if_pos rfl, if_pos b3']
        refine h.go hr ?_ hs hP q hpv rfl
        rw [wI_n h.cr.w] at b3'
        exact (nI_ltI (by have := wI_n5 h.cr.w; omega) (by decide)).mp b3'
      · obtain ⟨w1, w2⟩ := fwd_full (n := tkn σ) q1 b1 b2 b3
        have b3' : ¬ σ 9 8 < nI 500 := b3
        rw [w1, w2, if_neg nx, if_neg b3']; exact F
    · have q1 : ¬ σ 33 r < σ 32 r := fun z => q (c1.mp z)
      have q2 : σ 33 r = σ 32 r := c2.mpr (by omega)
      have w1 : w_fwd_r σ (tkn σ) r = -1 := by unfold w_fwd_r; rw [if_neg q1]
      have w2 : w_fwd σ (tkn σ) r = pr_up σ 23 r 1 := by unfold w_fwd; rw [if_neg q1]
      unfold w_f1 m_fw
      rw [w1, w2, if_pos rfl, ← e13, ← e14, if_pos q2]
      exact h.us hr (nI_vin (k := 1) (by decide) (by decide)) (fun _ => hP) (Or.inr (Or.inl rfl)) (fun _ => by
        obtain ⟨t, a1, a2, a3, a4, _⟩ := hP.2.2.2 0 (by have := hP.2.1; omega)
        exact ⟨t, a1, a3, a4⟩)
  · have : ¬ (σ 33 r).toNatClampNeg = (σ 32 r).toNatClampNeg := fun e => z (c2.mpr e)
    rw [hpv]; exact nI_vin (by omega) (by decide)
