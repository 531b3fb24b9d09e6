/-! A REQUEST CANCELLED ON BOTH SIDES -/
noncomputable def can_v (μ : pr_I) (r i : Nat) : Int32 := ((if (μ 1 (264 + 28 * r + 4)) = (2 : Int32) then (m_un_r (mf_cancel_it45 μ r i).1 r i) else ((mf_cancel_it45 μ r i).1 1 (1384 + 8 * i + 6))) * (μ 1 5)) / (100 : Int32)
theorem can_s {μ : pr_I} {r i : Nat} : mf_cancel_it45 μ r (i + 1) = (if ((mf_cancel_it45 μ r i).1 1 (1384 + 8 * i + 0)) = (nI r) then (if (m_kept_r (mf_cancel_it45 μ r i).1 i) = 0 then (mf_cancel_it45 μ r i) else ((m_gb (pr_up (mf_cancel_it45 μ r i).1 1 (1384 + 8 * i + 5) (3 : Int32)) i (can_v μ r i)), ((mf_cancel_it45 μ r i).2 + can_v μ r i))) else (mf_cancel_it45 μ r i)) := by
  rw [mf_cancel_it45]; rfl
theorem can_1 {μ : pr_I} {r i : Nat} : (mf_cancel_it45 μ r (i + 1)).1 = (if ((mf_cancel_it45 μ r i).1 1 (1384 + 8 * i + 0)) = (nI r) then (if (m_kept_r (mf_cancel_it45 μ r i).1 i) = 0 then (mf_cancel_it45 μ r i).1 else m_gb (pr_up (mf_cancel_it45 μ r i).1 1 (1384 + 8 * i + 5) (3 : Int32)) i (can_v μ r i)) else (mf_cancel_it45 μ r i).1) := by
  rw [can_s]
  split
  · split <;> rfl
  · rfl
theorem can_am {σ μ : pr_I} (h : WT σ μ) (tx : Tx σ) {n r i : Nat} {a b : Int32} (hr : r < rqn σ) (hi : i < tkn σ) (hab : (σ 23 r = 2 ∧ a = σ 30 r - σ 0 7 ∧ b = σ 22 r) ∨ (¬ σ 23 r = 2 ∧ a = 1 ∧ b = 1)) (ih : Cr (w_ra_it6 σ n (nI r) a b (σ 119 4) i).1 (mf_cancel_it45 μ r i).1) : w_am σ a b (σ 119 4) i = can_v μ r i := by
  obtain ⟨n1, n2, n3⟩ := ra_n (σ := σ) (n := n) (r := nI r) (a := a) (b := b) (p := σ 119 4) (k := i)
  have rr : r < rqn (w_ra_it6 σ n (nI r) a b (σ 119 4) i).1 := by rw [n2]; exact hr
  have e6 : σ 16 i = (mf_cancel_it45 μ r i).1 1 (1384 + 8 * i + 6) := by
    rw [← ih.tick (t := i) (by rw [n3]; exact hi) (c := 6) (by decide), fr_w_ra_it6 (o := 16) (by decide)]
  have e11 : σ 30 r = (mf_cancel_it45 μ r i).1 1 (264 + 28 * r + 11) := by rw [← ih.req rr (c := 11) (by decide), fr_w_ra_it6 (o := 30) (by decide)]
  have e3 : σ 22 r = (mf_cancel_it45 μ r i).1 1 (264 + 28 * r + 3) := by rw [← ih.req rr (c := 3) (by decide), fr_w_ra_it6 (o := 22) (by decide)]
  have en : σ 0 7 = (mf_cancel_it45 μ r i).1 1 0 := by rw [← ih.now, fr_w_ra_it6 (o := 0) (by decide)]
  have e4 : σ 23 r = μ 1 (264 + 28 * r + 4) := h.1.cr.req hr (c := 4) (by decide)
  have e5 : σ 119 4 = μ 1 5 := h.1.cr.set (j := 4) (by decide)
  have hp := h.1.cr.pc hi
  have hq := (h.1.rq r hr).2.2.2.2
  have hs := h.1.se.2.2.2.2
  have t0 := h.1.ti.1
  unfold can_v w_am
  rw [← e4, ← e5]
  rcases hab with ⟨s, ha, hb⟩ | ⟨s, ha, hb⟩
  · have t1 := h.2.2.1 r hr s
    have t2 := tx.2 r hr s
    have a0 : a.toInt = (σ 30 r).toInt - (σ 0 7).toInt := by
      have hlt := (σ 30 r).toInt_lt
      rw [ha, i_sub (by omega) (by omega)]
    have b1 : (1 : Int32) ≤ b := le_i.mpr (by rw [hb]; exact hq.1)
    have m0 : 0 ≤ (σ 16 i).toInt * a.toInt := Int.mul_nonneg hp.1 (by omega)
    have m1 : (σ 16 i).toInt * a.toInt ≤ 1000000 * 10000 := Int.mul_le_mul hp.2 (by omega) (by omega) (by decide)
    have m2 : (σ 16 i).toInt * a.toInt ≤ (σ 16 i).toInt * b.toInt := Int.mul_le_mul_of_nonneg_left (by rw [hb]; omega) hp.1
    have pm : ((σ 16 i).toInt64 * a.toInt64).toInt = (σ 16 i).toInt * a.toInt := by
      rw [l_mul (by rw [Int32.toInt_toInt64, Int32.toInt_toInt64]; omega) (by rw [Int32.toInt_toInt64, Int32.toInt_toInt64]; omega), Int32.toInt_toInt64, Int32.toInt_toInt64]
    have bp : 0 < b.toInt := by rw [hb]; omega
    have qd : (((σ 16 i).toInt64 * a.toInt64) / b.toInt64).toInt = (σ 16 i).toInt * a.toInt / b.toInt := by
      rw [l_div (by rw [pm]; exact m0) (by rw [Int32.toInt_toInt64]; exact bp), pm, Int32.toInt_toInt64]
    have q0 : 0 ≤ (σ 16 i).toInt * a.toInt / b.toInt := Int.ediv_nonneg m0 (by omega)
    have q1 : (σ 16 i).toInt * a.toInt / b.toInt ≤ (σ 16 i).toInt := by
      have := Int.ediv_le_ediv bp m2
      rw [Int.mul_ediv_cancel _ (by omega)] at this; exact this
    rw [if_pos b1, if_pos s, am_pc (by rw [qd]; exact q0) (by rw [qd]; omega) hs.1 hs.2]
    unfold m_un_r
    rw [← e6, ← e11, ← e3, ← en, ha, hb]
  · have e1 : (1 : Int32).toInt64 = (1 : Int64) := by decide
    rw [if_neg s, ha, hb, if_pos (by decide), e1, Int64.mul_one, Int64.div_one, am_pc (by rw [Int32.toInt_toInt64]; exact hp.1) (by rw [Int32.toInt_toInt64]; exact hp.2) hs.1 hs.2, nar1, ← e6]
theorem can_loop {σ μ : pr_I} (h : WT σ μ) (tx : Tx σ) {n r : Nat} {a b : Int32} (hr : r < rqn σ) (hab : (σ 23 r = 2 ∧ a = σ 30 r - σ 0 7 ∧ b = σ 22 r) ∨ (¬ σ 23 r = 2 ∧ a = 1 ∧ b = 1)) : ∀ i, i ≤ tkn σ → Cr (w_ra_it6 σ n (nI r) a b (σ 119 4) i).1 (mf_cancel_it45 μ r i).1 :=
  ra_loop h.1.mu.cr (G := fun i => (mf_cancel_it45 μ r i).1) (f := can_v μ r) rfl (fun i => can_1) (fun i hi ih => can_am h tx hr hi hab ih)
theorem can_2 {σ μ : pr_I} (h : WT σ μ) (tx : Tx σ) {n r : Nat} {a b : Int32} (hr : r < rqn σ) (hab : (σ 23 r = 2 ∧ a = σ 30 r - σ 0 7 ∧ b = σ 22 r) ∨ (¬ σ 23 r = 2 ∧ a = 1 ∧ b = 1)) : ∀ i, i ≤ tkn σ → (w_ra_it6 σ n (nI r) a b (σ 119 4) i).2 = (mf_cancel_it45 μ r i).2
  | 0, _ => rfl
  | i + 1, hi => by
    have ih := can_2 h tx (n := n) hr hab i (by omega)
    have C := can_loop h tx (n := n) hr hab i (by omega)
    obtain ⟨n1, n2, n3⟩ := ra_n (σ := σ) (n := n) (r := nI r) (a := a) (b := b) (p := σ 119 4) (k := i)
    have ht : i < tkn (w_ra_it6 σ n (nI r) a b (σ 119 4) i).1 := by rw [n3]; omega
    have e0 : σ 10 i = (mf_cancel_it45 μ r i).1 1 (1384 + 8 * i + 0) := by
      rw [← C.tick ht (c := 0) (by decide), fr_w_ra_it6 (o := 10) (by decide)]
    have ek := C.kept ht
    rw [ra_s2, can_s, ← e0, ← ek, ← ih, ← can_am h tx hr (by omega) hab C]
    by_cases c : σ 10 i = nI r
    · rw [if_pos c, if_pos c]
      by_cases c2 : tk_kp (w_ra_it6 σ n (nI r) a b (σ 119 4) i).1 i = 0
      · rw [if_pos c2, if_pos c2]; exact ih
      · rw [if_neg c2, if_neg c2]
    · rw [if_neg c, if_neg c]; exact ih
theorem kp_can {μ : pr_I} {r j : Nat} (hI : mI μ) (hj : kp j) : ∀ k, k ≤ 500 → (mf_cancel_it45 μ r k).1 1 j = μ 1 j
  | 0, _ => by
    show (pr_up μ 0 6 (0 : Int32)) 1 j = μ 1 j
    rw [pr_upv (by decide)]
  | k + 1, hk => by
    have ih := kp_can (r := r) hI hj k (by omega)
    have im := mI_mf_cancel_it45 (k := r) hI k (by omega)
    have e : (pr_up (mf_cancel_it45 μ r k).1 1 (1384 + 8 * k + 5) (3 : Int32)) 1 j = μ 1 j := by
      rw [pr_upk (by unfold kp at hj; omega)]; exact ih
    rw [can_1]
    split
    · split
      · exact ih
      · exact (kp_gb (μ := pr_up (mf_cancel_it45 μ r k).1 1 (1384 + 8 * k + 5) (3 : Int32)) (mI.upn im ((mW_tick (k := k) (c := 5) (by omega) (by decide)).trans rfl)) (by omega) hj).trans e
    · exact ih
