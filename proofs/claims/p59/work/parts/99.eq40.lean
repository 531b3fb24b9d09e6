/-! isSafe: promised units are few -/
theorem prom_s {μ : pr_I} {n j : Nat} {x : Int32} : m_prom_it4 μ n x (j + 1) = m_prom_it4 μ n x j + (if μ 1 (1384 + 8 * j + 1) = x then (if m_kept_r μ j = 0 then (0 : Int32) else μ 1 (1384 + 8 * j + 2)) else (0 : Int32)) := rfl
theorem prom_bd {μ : pr_I} {n : Nat} {x : Int32} : ∀ j, j ≤ 500 → (∀ t, t < j → 0 ≤ (μ 1 (1384 + 8 * t + 2)).toInt ∧ (μ 1 (1384 + 8 * t + 2)).toInt ≤ 1000) → 0 ≤ (m_prom_it4 μ n x j).toInt ∧ (m_prom_it4 μ n x j).toInt ≤ 1000 * j
  | 0, _, _ => by
    have e : m_prom_it4 μ n x 0 = 0 := rfl
    rw [e, show (0 : Int32).toInt = 0 from rfl]; omega
  | j + 1, hj, h => by
    have ih := prom_bd (n := n) (x := x) j (by omega) (fun t ht => h t (by omega))
    have u := h j (by omega)
    have b : 0 ≤ (if μ 1 (1384 + 8 * j + 1) = x then (if m_kept_r μ j = 0 then (0 : Int32) else μ 1 (1384 + 8 * j + 2)) else (0 : Int32)).toInt ∧ (if μ 1 (1384 + 8 * j + 1) = x then (if m_kept_r μ j = 0 then (0 : Int32) else μ 1 (1384 + 8 * j + 2)) else (0 : Int32)).toInt ≤ 1000 := by
      split
      · split
        · exact ⟨by decide, by decide⟩
        · exact u
      · exact ⟨by decide, by decide⟩
    rw [prom_s, i_add (by omega) (by omega)]
    omega
theorem eq_isSafe {σ μ : pr_I} (h : WT σ μ) (tx : Tx σ) : fx_isSafe_r σ = mf_isSafe_r μ := by
  have h24 := wI_nl24 h.1.cr.w
  have h5 := wI_n5 h.1.cr.w
  have av : ∀ k, k < lkn σ → (0 ≤ m_av_r (pr_up μ 0 6 (0 : Int32)) (mtn μ) k ↔ σ 7 k ≤ σ 4 k) := fun k hk => by
    have ep : σ 7 k = m_prom_r (pr_up μ 0 6 (0 : Int32)) (mtn μ) (nI k) := by
      unfold m_prom_r; rw [h.1.cr.tn]; exact h.1.mu.cr.pr hk
    have e2 : σ 4 k = (pr_up μ 0 6 (0 : Int32)) 1 (96 + 7 * k + 2) := h.1.mu.cr.link hk (c := 2) (by decide)
    have bd := prom_bd (μ := μ) (n := tkn σ) (x := nI k) (tkn σ) h5 (fun t ht => by
      rw [← h.1.cr.tick ht (c := 2) (by decide)]; exact tx.1 t ht)
    rw [← h.1.cr.pr hk] at bd
    have cb := (h.1.lk k hk).2.2.2.2.2
    unfold m_av_r
    rw [← ep, ← e2, le_i, le_i, i_sub (by omega) (by omega), show (0 : Int32).toInt = 0 from rfl]
    omega
  have L : ∀ j k, k + j ≤ 100 → fx_isSafe_rl2 σ j k = mf_isSafe_rl7 μ j k := by
    intro j
    induction j with
    | zero => intro k _; rfl
    | succ j ih =>
      intro k hk
      rw [fx_isSafe_rl2, mf_isSafe_rl7, h.1.cr.ln, ← ih (k + 1) (by omega)]
      by_cases c : nI (lkn σ) ≤ nI k
      · rw [if_pos c, if_pos c]
      · rw [if_neg c, if_neg c]
        by_cases k1 : k < lkn σ
        · by_cases c2 : σ 7 k ≤ σ 4 k
          · rw [if_pos c2, if_pos ((av k k1).mpr c2)]
          · rw [if_neg c2, if_neg (fun q => c2 ((av k k1).mp q))]
        · exact absurd ((nI_leI (by omega) (by omega)).mpr (by omega)) c
  unfold fx_isSafe_r mf_isSafe_r
  rw [h.1.cr.ln]
  exact L _ _ (by omega)
/-! cancel: what is given back -/
theorem am_pc {q : Int64} {p : Int32} (q0 : 0 ≤ q.toInt) (q1 : q.toInt ≤ 1000000) (p0 : 0 ≤ p.toInt) (p1 : p.toInt ≤ 100) : ((q * p.toInt64) / (100 : Int64)).toInt32 = (q.toInt32 * p) / (100 : Int32) := by
  have m0 : 0 ≤ q.toInt * p.toInt := Int.mul_nonneg q0 p0
  have m1 : q.toInt * p.toInt ≤ 1000000 * 100 := Int.mul_le_mul q1 p1 p0 (by decide)
  have e2 : (100 : Int64).toInt = 100 := by decide
  have e3 : (100 : Int32).toInt = 100 := by decide
  have a1 : (q * p.toInt64).toInt = q.toInt * p.toInt := by rw [l_mul (by rw [Int32.toInt_toInt64]; omega) (by rw [Int32.toInt_toInt64]; omega), Int32.toInt_toInt64]
  have a2 : ((q * p.toInt64) / (100 : Int64)).toInt = q.toInt * p.toInt / 100 := by rw [l_div (by rw [a1]; exact m0) (by rw [e2]; omega), a1, e2]
  have b0 : q.toInt32.toInt = q.toInt := by rw [Int64.toInt_toInt32]; exact bm32 (by omega) (by omega)
  have b1 : (q.toInt32 * p).toInt = q.toInt * p.toInt := by rw [i_mul (by rw [b0]; omega) (by rw [b0]; omega), b0]
  apply Int32.toInt_inj.mp
  rw [i_div (by rw [b1]; exact m0) (by rw [e3]; omega), b1, e3, Int64.toInt_toInt32, a2]
  exact bm32 (by omega) (by omega)
/-- releases do not see cells that they leave alone -/
theorem rel_comm {σ : pr_I} {t o k : Nat} {s f v : Int32} (ho : o ≠ 7 ∧ o ≠ 10 ∧ o ≠ 11 ∧ o ≠ 12 ∧ o ≠ 15 ∧ o ≠ 17 ∧ o ≠ 27) : w_rel (pr_up σ o k v) t s f = pr_up (w_rel σ t s f) o k v := by
  unfold w_rel
  rw [pr_upv (show (17 : Nat) ≠ o by omega), pr_upv (show (10 : Nat) ≠ o by omega), pr_upv (show (27 : Nat) ≠ o by omega), pr_upv (show (11 : Nat) ≠ o by omega), pr_upv (show (7 : Nat) ≠ o by omega), pr_upv (show (12 : Nat) ≠ o by omega)]
  rw [pr_up_comm (show o ≠ 15 by omega), pr_up_comm (show o ≠ 17 by omega), pr_up_comm (show o ≠ 27 by omega), pr_up_comm (show o ≠ 7 by omega)]
theorem ra_s2 {σ : pr_I} {n : Nat} {r a b p : Int32} {k : Nat} : w_ra_it6 σ n r a b p (k + 1) = (if σ 10 k = r then (if tk_kp (w_ra_it6 σ n r a b p k).1 k = 0 then (w_ra_it6 σ n r a b p k) else (w_rel (w_ra_it6 σ n r a b p k).1 k 3 (w_am σ a b p k), (w_ra_it6 σ n r a b p k).2 + w_am σ a b p k)) else (w_ra_it6 σ n r a b p k)) := rfl
theorem ra_comm {σ : pr_I} {n o j : Nat} {r a b p v : Int32} (ho : o ≠ 7 ∧ o ≠ 10 ∧ o ≠ 11 ∧ o ≠ 12 ∧ o ≠ 15 ∧ o ≠ 16 ∧ o ≠ 17 ∧ o ≠ 27) : ∀ k, w_ra_it6 (pr_up σ o j v) n r a b p k = (pr_up (w_ra_it6 σ n r a b p k).1 o j v, (w_ra_it6 σ n r a b p k).2)
  | 0 => rfl
  | k + 1 => by
    have ih := ra_comm (σ := σ) (n := n) (j := j) (r := r) (a := a) (b := b) (p := p) (v := v) ho k
    have am : w_am (pr_up σ o j v) a b p k = w_am σ a b p k := by unfold w_am; rw [pr_upv (show (16 : Nat) ≠ o by omega)]
    have kp : tk_kp (pr_up (w_ra_it6 σ n r a b p k).1 o j v) k = tk_kp (w_ra_it6 σ n r a b p k).1 k := by unfold tk_kp; rw [pr_upv (show (15 : Nat) ≠ o by omega)]
    rw [ra_s2, ra_s2, ih, am, pr_upv (show (10 : Nat) ≠ o by omega), kp, rel_comm (by omega)]
    by_cases c : σ 10 k = r
    · rw [if_pos c, if_pos c]
      by_cases c2 : tk_kp (w_ra_it6 σ n r a b p k).1 k = 0
      · rw [if_pos c2, if_pos c2]
      · rw [if_neg c2, if_neg c2]
    · rw [if_neg c, if_neg c]
