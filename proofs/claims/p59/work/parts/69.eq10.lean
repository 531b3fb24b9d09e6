/-! ONE MOVE BACK -/
theorem back_0 {σ : pr_I} {r : Nat} (h : σ 33 r = 0) : w_back_r σ r = -1 ∧ w_back σ r = w_settle (pr_up (pr_up σ 29 r (σ 0 7)) 30 r ((σ 0 7) + (σ 22 r))) r (2 : Int32) := by
  have e : ¬ (0 : Int32) ≤ σ 33 r - 1 := by rw [h]; decide
  unfold w_back_r w_back
  rw [if_neg e, if_neg e]
  exact ⟨rfl, rfl⟩
theorem nI_p1 {q : Nat} : nI (q + 1) - 1 = nI q := nI_sub (a := q + 1) (b := 1) (by omega)
theorem back_s {σ : pr_I} {r q : Nat} (h : σ 33 r = nI (q + 1)) (hq : q < 12) : w_back_r σ r = (if (σ 15 ((σ (76 + r) q).toNatClampNeg)) = 0 then -1 else σ (35 + r) q) ∧ w_back σ r = (if (σ 15 ((σ (76 + r) q).toNatClampNeg)) = 0 then (pr_up (pr_up (pr_up σ 15 ((σ (76 + r) q).toNatClampNeg) (1 : Int32)) 33 r (nI q)) 25 r ((σ 0 7) + (σ 6 ((σ (35 + r) q).toNatClampNeg)))) else σ) := by
  have e : (0 : Int32) ≤ σ 33 r - 1 := by rw [h, nI_p1]; exact nI_pos' (by omega)
  unfold w_back_r w_back
  rw [if_pos e, if_pos e, h, nI_p1, nI_clamp (by omega)]
  exact ⟨rfl, rfl⟩
theorem Wd.b1 {σ μ : pr_I} (h : Wd σ μ) {r : Nat} (hr : r < rqn σ) (hs : σ 23 r = 1) : Wd (w_b1 σ r) (m_bk μ r) ∧ vp_in (m_tof_r μ r (μ 1 (264 + 28 * r + (15 + ((μ 1 (264 + 28 * r + 14)).toNatClampNeg - 1))))) 500 := by
  have h4 := wI_nr4 h.cr.w
  have h5 := wI_n5 h.cr.w
  have h24 := wI_nl24 h.cr.w
  have hP := (h.sr hr).2.1 (Or.inr hs)
  have hK := (h.sr hr).2.2.2 hs
  have hL := vp_in_lt (h.cr.w 32 r 12 rfl)
  have hpv : σ 33 r = nI (σ 33 r).toNatClampNeg := vp_nI (h.cr.w 33 r 12 rfl) (by decide)
  have hle := hP.1
  have e14 : σ 33 r = μ 1 (264 + 28 * r + 14) := h.cr.req hr (c := 14) (by decide)
  have e3 : σ 22 r = μ 1 (264 + 28 * r + 3) := h.cr.req hr (c := 3) (by decide)
  -- some ticket on a path link is there
  have tofv : ∀ x, (∃ t, t < tkn σ ∧ σ 10 t = nI r ∧ σ 11 t = x) → vp_in (m_tof_r μ r x) 500 := by
    intro x hx
    unfold m_tof_r
    rw [h.cr.tn]
    have key : ∀ n, n ≤ tkn σ → (∃ t, t < n ∧ σ 10 t = nI r ∧ σ 11 t = x) → vp_in (m_tof_it5 μ r x n) 500 := by
      intro n
      induction n with
      | zero => intro _ ⟨t, a, _⟩; omega
      | succ n ih =>
        intro hn ⟨t, a, b, c⟩
        have e0 : σ 10 n = μ 1 (1384 + 8 * n + 0) := h.cr.tick (by omega) (c := 0) (by decide)
        have e1 : σ 11 n = μ 1 (1384 + 8 * n + 1) := h.cr.tick (by omega) (c := 1) (by decide)
        rw [m_tof_it5, ← e0, ← e1]
        by_cases c0 : σ 10 n = nI r ∧ σ 11 n = x
        · rw [if_pos c0.1, if_pos c0.2]; exact nI_vin (by omega) (by decide)
        · have := ih (by omega) ⟨t, by
            by_cases z : t = n
            · subst z; exact absurd ⟨b, c⟩ c0
            · omega, b, c⟩
          by_cases c1 : σ 10 n = nI r
          · rw [if_pos c1, if_neg (fun z => c0 ⟨c1, z⟩)]; exact this
          · rw [if_neg c1]; exact this
    exact key _ (Nat.le_refl _) hx
  rw [← e14]
  by_cases q0 : (σ 33 r).toNatClampNeg = 0
  · have z : σ 33 r = 0 := by rw [hpv, q0]; rfl
    refine ⟨?_, ?_⟩
    · obtain ⟨w1, w2⟩ := back_0 (σ := σ) (r := r) z
      unfold w_b1 m_bk
      rw [w1, w2, if_pos rfl, ← e14, if_pos z, ← h.cr.now, ← e3]
      have B := ((h.use (s := 2) hr (nI_vin (k := 2) (by decide) (by decide)) (by decide)).u1 (c := 10) (v := σ 0 7) hr (by decide)).u1 (c := 11) (v := σ 0 7 + σ 22 r) hr (by decide)
      have ew : w_settle (pr_up (pr_up σ 29 r (σ 0 7)) 30 r (σ 0 7 + σ 22 r)) r 2 = pr_up (pr_up (w_settle σ r 2) 29 r (σ 0 7)) 30 r (σ 0 7 + σ 22 r) := by
        unfold w_settle
        rw [pr_up_comm (show (30 : Nat) ≠ 23 by decide), pr_up_comm (show (29 : Nat) ≠ 23 by decide), pr_up_comm (show (30 : Nat) ≠ 25 by decide), pr_up_comm (show (29 : Nat) ≠ 25 by decide)]
      rw [ew]; exact B
    · rw [q0]
      obtain ⟨t, a, b, c⟩ := hK
      have hp0 := h.pa r 0 hr (by have := hP.2.1; omega)
      rw [← hp0.1]
      exact tofv _ ⟨t, a, b, c⟩
  · obtain ⟨q, hq⟩ : ∃ q, (σ 33 r).toNatClampNeg = q + 1 := ⟨(σ 33 r).toNatClampNeg - 1, by omega⟩
    have z : σ 33 r = nI (q + 1) := by rw [hpv, hq]
    have z0 : ¬ σ 33 r = 0 := fun e => q0 (by rw [e]; rfl)
    obtain ⟨t, t1, t2, t3, t4, t5⟩ := hP.2.2.2 q (by omega)
    have hpa := h.pa r q hr (by omega)
    have hxl := vp_in_lt hpa.2
    have etof : m_tof_r μ r (σ (35 + r) q) = nI t := by
      unfold m_tof_r
      rw [h.cr.tn]
      refine tof_it ?_ ?_ _ t1 (fun t' a b => ?_)
      · rw [← h.cr.tick t1 (c := 0) (by decide)]; exact t3
      · rw [← h.cr.tick t1 (c := 1) (by decide)]; exact t4
      · rw [← h.cr.tick b (c := 0) (by decide), ← h.cr.tick b (c := 1) (by decide)]; exact t5 t' a b
    rw [hq, show q + 1 - 1 = q from rfl, ← hpa.1, etof]
    refine ⟨?_, nI_vin (by omega) (by decide)⟩
    obtain ⟨w1, w2⟩ := back_s (σ := σ) (r := r) z (by omega)
    have e5 : σ 15 t = μ 1 (1384 + 8 * t + 5) := h.cr.tick t1 (c := 5) (by decide)
    have eM : m_bk μ r = (if σ 15 t = 0 then (m_go (pr_up μ 1 (1384 + 8 * t + 5) (1 : Int32)) r (nI q) (σ (35 + r) q)) else (m_fa μ r (σ (35 + r) q))) := by
      unfold m_bk
      rw [← e14, if_neg z0, hq, show q + 1 - 1 = q from rfl, ← hpa.1, etof, nI_clamp (by omega), ← e5, z, nI_p1]
    rw [t2, nI_clamp (by omega)] at w1 w2
    rw [eM]
    unfold w_b1
    rw [w1, w2]
    by_cases c : σ 15 t = 0
    · rw [if_pos c, if_pos c, if_pos c, if_pos rfl]
      have C1 := h.cr.conf t1 c
      have C2 := C1.upl (r := r) (v := nI q) hr (nI_vin (by omega) (by decide))
      have C3 := C2.ureq (r := r) (c := 6) (v := σ 0 7 + σ 6 (σ (35 + r) q).toNatClampNeg) hr (by decide) (by decide)
      have em : m_go (pr_up μ 1 (1384 + 8 * t + 5) 1) r (nI q) (σ (35 + r) q) = pr_up (pr_up (pr_up μ 1 (1384 + 8 * t + 5) 1) 1 (264 + 28 * r + 14) (nI q)) 1 (264 + 28 * r + 6) (σ 0 7 + σ 6 (σ (35 + r) q).toNatClampNeg) := by
        unfold m_go
        have a2 : σ 6 (σ (35 + r) q).toNatClampNeg = μ 1 (96 + 7 * (σ (35 + r) q).toNatClampNeg + 4) := h.cr.link hxl (c := 4) (by decide)
        rw [pr_upk (show 0 ≠ 1384 + 8 * t + 5 by omega), pr_upk (show 96 + 7 * (σ (35 + r) q).toNatClampNeg + 4 ≠ 1384 + 8 * t + 5 by omega), ← h.cr.now, ← a2]
      rw [em]
      have k : ∀ o, o ≠ 15 → o ≠ 33 → o ≠ 25 → pr_up (pr_up (pr_up σ 15 t 1) 33 r (nI q)) 25 r (σ 0 7 + σ 6 (σ (35 + r) q).toNatClampNeg) o = σ o := fun o a b c => by rw [pr_up_ne c, pr_up_ne b, pr_up_ne a]
      refine h.keep C3 (fun o ho => ?_) (fun r' _ => k _ (by omega) (by omega) (by omega)) (fun j hj => ?_) (fun r' hr' => ?_)
      · simp only [List.mem_cons, List.not_mem_nil, or_false] at ho
        exact k o (by omega) (by omega) (by omega)
      · unfold kp at hj; rw [pr_upk (by omega), pr_upk (by omega), pr_upk (by omega)]
      · by_cases e : r' = r
        · subst e
          unfold Sr
          rw [k 23 (by decide) (by decide) (by decide)]
          refine ⟨(h.sr hr').1, fun _ => ?_, fun y => absurd (Or.inr (Or.inl hs)) y, fun _ => ?_⟩
          · unfold Pt tkn
            rw [k 9 (by decide) (by decide) (by decide), k 10 (by decide) (by decide) (by decide), k 11 (by decide) (by decide) (by decide), k 32 (by decide) (by decide) (by decide), k (35 + r') (by omega) (by omega) (by omega), k (76 + r') (by omega) (by omega) (by omega), pr_upv (show (33 : Nat) ≠ 25 by decide), pr_upe, nI_clamp (by omega)]
            exact ⟨by omega, hP.2.1, hP.2.2.1, fun p hp => hP.2.2.2 p (by omega)⟩
          · unfold Pk tkn
            rw [k 9 (by decide) (by decide) (by decide), k 10 (by decide) (by decide) (by decide), k 11 (by decide) (by decide) (by decide), k (35 + r') (by omega) (by omega) (by omega)]
            exact hK
        · exact (h.sr hr').of (k _ (by omega) (by omega) (by omega)) (k _ (by omega) (by omega) (by omega)) (k _ (by omega) (by omega) (by omega)) (k _ (by omega) (by omega) (by omega)) (by rw [pr_upv (by decide), pr_upk e, pr_upv (by decide)]) (k _ (by omega) (by omega) (by omega)) (k _ (by omega) (by omega) (by omega)) (by rw [k _ (by omega) (by omega) (by omega)]) (by rw [pr_upk e, pr_upv (by decide), pr_upv (by decide)])
    · rw [if_neg c, if_neg c, if_neg c, if_neg (vin_m1 hpa.2 (by omega))]
      exact h.fail rfl hr hpa.2
