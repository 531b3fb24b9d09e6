/-! THE LINKS THAT ARE WIDE ENOUGH, ON BOTH SIDES -/
theorem bit_sh1 {k j : Nat} (hk : k < 32) (hj : j < 32) : bit ((1 : Int32) <<< (nI k &&& 31)) j = decide (j = k) := by
  rw [bit_shl hk hj, bit_1]
  by_cases q : j = k
  · subst q; simp
  · by_cases q1 : j < k
    · simp [q1, q]
    · simp [q, show ¬ j - k = 0 by omega]
theorem wu_bit {σ : pr_I} {u : Int32} : ∀ n, n ≤ 24 → ∀ j, j < 32 → bit (lk_wu σ u n) j = (decide (j < n) && !decide (lk_av σ j < u))
  | 0, _, j, _ => by
    show bit 0 j = _
    rw [bit_0]; simp
  | n + 1, hn, j, hj => by
    have ih := wu_bit (σ := σ) (u := u) n (by omega) j hj
    have s : lk_wu σ u (n + 1) = lk_wu σ u n ||| (if lk_av σ n < u then (0 : Int32) else (1 : Int32) <<< (nI n &&& 31)) := by rw [lk_wu]
    rw [s, bit_or, ih]
    by_cases c : lk_av σ n < u
    · rw [if_pos c, bit_0]
      by_cases q : j = n
      · subst q; simp [c]
      · by_cases q1 : j < n
        · simp [q1, show j < n + 1 by omega]
        · simp [q1, show ¬ j < n + 1 by omega]
    · rw [if_neg c, bit_sh1 (by omega) hj]
      by_cases q : j = n
      · subst q; simp [c]
      · by_cases q1 : j < n
        · simp [q1, q, show j < n + 1 by omega]
        · simp [q1, q, show ¬ j < n + 1 by omega]
theorem lw_bit {μ : pr_I} {m nl : Nat} {u : Int32} : ∀ n, n ≤ 24 → ∀ j, j < 32 → bit (m_lw_it4 μ m nl u n) j = (decide (j < n) && (decide (μ 1 (96 + 7 * j + 5) = 1) && !decide (m_av_r μ m j < u)))
  | 0, _, j, _ => by
    show bit 0 j = _
    rw [bit_0]; simp
  | n + 1, hn, j, hj => by
    have ih := lw_bit (μ := μ) (m := m) (nl := nl) (u := u) n (by omega) j hj
    rw [m_lw_it4, bit_or, ih]
    have tail : bit (if μ 1 (96 + 7 * n + 5) = 1 then (if m_av_r μ m n < u then (0 : Int32) else (1 : Int32) <<< (nI n &&& 31)) else 0) j = (decide (j = n) && (decide (μ 1 (96 + 7 * n + 5) = 1) && !decide (m_av_r μ m n < u))) := by
      by_cases c1 : μ 1 (96 + 7 * n + 5) = 1
      · rw [if_pos c1]
        by_cases c : m_av_r μ m n < u
        · rw [if_pos c, bit_0]; simp [c]
        · rw [if_neg c, bit_sh1 (by omega) hj]; simp [c, c1]
      · rw [if_neg c1, bit_0]; simp [c1]
    rw [tail]
    by_cases q : j = n
    · subst q; simp
    · by_cases q1 : j < n
      · simp [q1, q, show j < n + 1 by omega]
      · simp [q1, q, show ¬ j < n + 1 by omega]
theorem HU.wide {σ μ : pr_I} (h : WT σ μ) {u : Int32} : HU (lk_wu σ u (lkn σ) &&& σ 1 7) (m_lw_r (pr_up μ 0 6 (0 : Int32)) (mtn μ) (mln μ) u) (lkn σ) := by
  have h24 := wI_nl24 h.1.cr.w
  refine HU.of h24 (fun k hk => ?_)
  have av : lk_av σ k = m_av_r (pr_up μ 0 6 (0 : Int32)) (mtn μ) k := eq_linkValue h hk (c := 6) (by decide)
  have up : (pr_up μ 0 6 (0 : Int32)) 1 (96 + 7 * k + 5) = lk_up σ k := (h.1.mu.up k hk).symm
  unfold m_lw_r
  rw [bit_and, wu_bit _ h24 k (by omega), h.1.cr.ln, lw_bit _ h24 k (by omega), ← av, up, lk_bit (by omega)]
  cases bit (σ 1 7) k
  · simp
  · simp
/-- the way that price, round trip, hold and links of a cheapest path all ask for -/
theorem find_wide {σ μ : pr_I} (h : WT σ μ) {s t : Nat} {u : Int32} (hs : s < ndn σ) (ht : t < ndn σ) : m_fi_ok (pr_up μ 0 6 (0 : Int32)) (nI s) (nI t) (m_lw_r (pr_up μ 0 6 (0 : Int32)) (mtn μ) (mln μ) u) ∧ ((fx_fp_r σ s t u = nI 0 ∧ m_fi_r (pr_up μ 0 6 (0 : Int32)) (nI s) (nI t) (m_lw_r (pr_up μ 0 6 (0 : Int32)) (mtn μ) (mln μ) u) = 0) ∨ ∃ (n : Nat) (ls : Nat → Nat), n ≤ 11 ∧ fx_fp_r σ s t u = nI n ∧ m_fi_r (pr_up μ 0 6 (0 : Int32)) (nI s) (nI t) (m_lw_r (pr_up μ 0 6 (0 : Int32)) (mtn μ) (mln μ) u) = 1 ∧ m_fi (pr_up μ 0 6 (0 : Int32)) (nI s) (nI t) (m_lw_r (pr_up μ 0 6 (0 : Int32)) (mtn μ) (mln μ) u) 0 17 = nI n ∧ (∀ p, p < n → fx_fp σ s t u 117 p = nI (ls p) ∧ m_fi (pr_up μ 0 6 (0 : Int32)) (nI s) (nI t) (m_lw_r (pr_up μ 0 6 (0 : Int32)) (mtn μ) (mln μ) u) 10 p = nI (ls p) ∧ ls p < lkn σ) ∧ (n = 0 ↔ s = t)) := by
  have hnn : ndn σ ≤ 12 := Nat.le_of_lt_succ (vp_in_lt (h.1.cr.w 0 6 13 rfl))
  have F := find2 h.1.mu.bl (HU.wide h (u := u)) (nI_vin hs (by omega)) (nI_vin ht (by omega)) h.1.mu.cr.ln h.1.mu.cr.nn
  refine ⟨F.1, ?_⟩
  rcases F.2 with ⟨a, b, _⟩ | ⟨n, ls, a, b, c, d, e, _, f⟩
  · exact Or.inl ⟨a, b⟩
  · refine Or.inr ⟨n, ls, a, b, c, d, e, f.trans ⟨fun z => (nI_eq (by omega) (by omega)).mp z, fun z => by rw [z]⟩⟩
theorem eq_cheapestLink {σ μ : pr_I} (h : WT σ μ) {s t : Nat} {u i : Int32} (hs : s < ndn σ) (ht : t < ndn σ) (hst : s ≠ t) : fx_cheapestLink_r σ s t u i = mf_cheapestLink_r μ s t u i := by
  obtain ⟨_, F⟩ := find_wide h hs ht (u := u)
  unfold fx_cheapestLink_r mf_cheapestLink_r fx_len
  rcases F with ⟨a, b⟩ | ⟨n, ls, n11, a, b, c, d, e⟩
  · rw [a, b, if_pos rfl]
    by_cases c0 : i < 0
    · rw [if_pos c0]
    · rw [if_neg c0, if_pos]
      have c0' : ¬ i.toInt < 0 := fun q => c0 (lt_i.mpr q)
      rw [le_i, nI_clamp (by decide), nI_toI (by decide)]; omega
  · have z0 : (0 : Int64).toInt = 0 := rfl
    have n1 : (nI n - 1).toInt = (n : Int) - 1 := nI_m1 (by omega)
    have lt1 : lg_cmp i.toInt64 (0 : Int64) < 0 ↔ i < 0 := by
      rw [lg_lt0, Int64.lt_iff_toInt_lt, Int32.toInt_toInt64, z0, lt_i]; exact Iff.rfl
    have lt2 : 0 < lg_cmp i.toInt64 (nI n - 1).toInt64 ↔ nI n ≤ i := by
      rw [lg_gt0, Int64.lt_iff_toInt_lt, Int32.toInt_toInt64, Int32.toInt_toInt64, n1, le_i, nI_toI (by omega)]; omega
    unfold m_in_r
    rw [a, b, c, if_neg (show ¬ (1 : Int32) = 0 by decide), nI_clamp (by omega)]
    by_cases c0 : i < 0
    · have a2 : (if (lg_cmp i.toInt64 (0 : Int64)) < 0 then (0 : Int32) else (if 0 < (lg_cmp i.toInt64 (nI n - 1).toInt64) then (0 : Int32) else (1 : Int32))) = 0 := if_pos (lt1.mpr c0)
      rw [if_pos c0, if_pos a2]
    · by_cases c1 : nI n ≤ i
      · have a2 : (if (lg_cmp i.toInt64 (0 : Int64)) < 0 then (0 : Int32) else (if 0 < (lg_cmp i.toInt64 (nI n - 1).toInt64) then (0 : Int32) else (1 : Int32))) = 0 := by rw [if_neg (fun q => c0 (lt1.mp q)), if_pos (lt2.mpr c1)]
        rw [if_neg c0, if_pos c1, if_pos a2]
      · have a2 : ¬ (if (lg_cmp i.toInt64 (0 : Int64)) < 0 then (0 : Int32) else (if 0 < (lg_cmp i.toInt64 (nI n - 1).toInt64) then (0 : Int32) else (1 : Int32))) = 0 := by rw [if_neg (fun q => c0 (lt1.mp q)), if_neg (fun q => c1 (lt2.mp q))]; decide
        have c0' : ¬ i.toInt < 0 := fun q => c0 (lt_i.mpr q)
        have c1' : ¬ (n : Int) ≤ i.toInt := fun q => c1 (by rw [le_i, nI_toI (by omega)]; exact q)
        have hi : i.toNatClampNeg < n := by
          have : i.toNatClampNeg = i.toInt.toNat := rfl
          omega
        rw [if_neg c0, if_neg c1, if_neg a2, (d _ hi).1, (d _ hi).2.1]
