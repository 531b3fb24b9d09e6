/-! WHAT THE LAW FINDS OF FLOWS -/
section ISF
variable {σ μ : pr_I} {s t : Nat}
/-- what may flow on a link -/
def cp (σ : pr_I) (k : Nat) : Int32 := if bit (σ 1 7) k = true then lk_av σ k else 0
theorem cp_bd (hx : WX σ μ) (j : J σ) (ca : ∀ l, l < lkn σ → (σ 4 l).toInt ≤ 999) {l : Nat} (hl : l < lkn σ) : 0 ≤ (cp σ l).toInt ∧ (cp σ l).toInt ≤ 999 := by
  obtain ⟨a, b, c, d⟩ := av_of hx j hl
  have := ca l hl
  unfold cp
  split
  · omega
  · decide
theorem CC_0 {R : Nat → Bool} {c : Nat → Int32} : ∀ m, (∀ j, j < m → 0 ≤ (c j).toInt ∧ (c j).toInt ≤ 999) → 0 ≤ CC σ R c m ∧ CC σ R c m ≤ 999 * (m : Int)
  | 0, _ => ⟨Int.le_refl _, Int.le_refl _⟩
  | j + 1, h => by
    have ih := CC_0 (R := R) j (fun i hi => h i (by omega))
    have := h j (Nat.lt_succ_self j)
    rw [CC]
    split
    · split <;> omega
    · omega
/-- one link across is at most the cut -/
theorem CC_ge {R : Nat → Bool} {c : Nat → Int32} {i : Nat} (h1 : R (bf_f σ i) = true) (h2 : R (bf_g σ i) = false) : ∀ m, i < m → (∀ j, j < m → 0 ≤ (c j).toInt ∧ (c j).toInt ≤ 999) → (c i).toInt ≤ CC σ R c m
  | 0, hi, _ => absurd hi (Nat.not_lt_zero i)
  | j + 1, hi, h => by
    have b := h j (Nat.lt_succ_self j)
    rw [CC]
    by_cases q : i = j
    · subst q
      have := (CC_0 (σ := σ) (R := R) i (fun k hk => h k (by omega))).1
      rw [if_pos h1, if_neg (by rw [h2]; decide)]
      omega
    · have ih := CC_ge h1 h2 j (by omega) (fun k hk => h k (by omega))
      split
      · split <;> omega
      · omega
theorem CC_none {R : Nat → Bool} {c : Nat → Int32} : ∀ m, (∀ j, j < m → R (bf_f σ j) = true → R (bf_g σ j) = false → (c j).toInt ≤ 0) → CC σ R c m ≤ 0
  | 0, _ => Int.le_refl _
  | j + 1, h => by
    have ih := CC_none (R := R) (c := c) j (fun i hi => h i (by omega))
    rw [CC]
    by_cases p : R (bf_f σ j) = true
    · rw [if_pos p]
      by_cases q : R (bf_g σ j) = true
      · rw [if_pos q]; omega
      · rw [if_neg q]
        have := h j (Nat.lt_succ_self j) p (Bool.eq_false_iff.mpr q)
        omega
    · rw [if_neg p]; omega
/-- a way from inside to outside crosses -/
theorem cross {R : Nat → Bool} {u : Int32} {nl n : Nat} {ls np : Nat → Nat} (p : Pth σ u nl s t n ls np) (h1 : R s = true) (h2 : R t = false) : ∃ i, i < n ∧ R (np i) = true ∧ R (np (i + 1)) = false := by
  have A : ∀ k, k ≤ n → R (np k) = true ∨ ∃ i, i < n ∧ R (np i) = true ∧ R (np (i + 1)) = false := by
    intro k
    induction k with
    | zero => intro _; exact Or.inl (by rw [p.1]; exact h1)
    | succ k ih =>
      intro hk
      rcases ih (by omega) with a | a
      · cases q : R (np (k + 1)) with
        | true => exact Or.inl rfl
        | false => exact Or.inr ⟨k, by omega, a, q⟩
      · exact Or.inr a
  rcases A n (Nat.le_refl _) with a | a
  · rw [p.2.1, h2] at a; exact absurd a (by decide)
  · exact a
theorem cut_bits {φ : pr_I} {R : Nat → Bool} (B : BL σ μ (lkn σ) (ndn σ)) (hR : ∀ y, y < ndn σ → bit (fl_fi (fl_av φ σ (lkn σ)) σ (lkn σ) (nI s) (nI t) 0 4) y = R y) : ∀ n, n ≤ lkn σ → ∀ j, j < 32 → bit (fx_smallestCut_it42 φ σ s t n) j = (decide (j < n) && (R (bf_f σ j) && !(R (bf_g σ j))))
  | 0, _, j, _ => by
    show bit 0 j = _
    rw [bit_0]; simp
  | n + 1, hn, j, hj => by
    have ih := cut_bits B hR n (by omega) j hj
    have h24 := B.1
    have hn12 := B.2.1
    obtain ⟨v2, v3, _⟩ := B.2.2 n (by omega)
    have f2 : σ 2 n = nI (bf_f σ n) := vp_nI v2 (by omega)
    have f3 : σ 3 n = nI (bf_g σ n) := vp_nI v3 (by omega)
    have l2 : bf_f σ n < ndn σ := vp_in_lt v2
    have l3 : bf_g σ n < ndn σ := vp_in_lt v3
    have i2 : fl_is_r (fl_fi (fl_av φ σ (lkn σ)) σ (lkn σ) (nI s) (nI t)) (σ 2 n) = if R (bf_f σ n) = true then 1 else 0 := by
      rw [f2, is_bit (by omega), hR _ l2]
    have i3 : fl_is_r (fl_fi (fl_av φ σ (lkn σ)) σ (lkn σ) (nI s) (nI t)) (σ 3 n) = if R (bf_g σ n) = true then 1 else 0 := by
      rw [f3, is_bit (by omega), hR _ l3]
    rw [fx_smallestCut_it42, bit_or, ih, i2, i3]
    have tail : bit (if (if (if R (bf_f σ n) = true then (1 : Int32) else 0) = 0 then (0 : Int32) else (if (if R (bf_g σ n) = true then (1 : Int32) else 0) = 0 then (1 : Int32) else (0 : Int32))) = 0 then (0 : Int32) else ((1 : Int32) <<< ((nI n) &&& 31))) j = (decide (j = n) && (R (bf_f σ n) && !(R (bf_g σ n)))) := by
      rw [cut_Y, bit_sh1 (by omega) hj]
      cases R (bf_f σ n) <;> cases R (bf_g σ n) <;> simp
    rw [tail]
    by_cases q : j = n
    · subst q; simp
    · by_cases q1 : j < n
      · simp [q1, q, show j < n + 1 by omega]
      · simp [q1, q, show ¬ j < n + 1 by omega]
theorem cut_sum {C : Int32} {R : Nat → Bool} (h24 : lkn σ ≤ 24) (hC : ∀ j, j < lkn σ → bit C j = ((R (bf_f σ j) && !(R (bf_g σ j))) && bit (σ 1 7) j)) (hb : ∀ j, j < lkn σ → 0 ≤ (cp σ j).toInt ∧ (cp σ j).toInt ≤ 999) : ∀ m, m ≤ lkn σ → (cutS σ C m).toInt = CC σ R (cp σ) m
  | 0, _ => rfl
  | j + 1, hm => by
    have ih := cut_sum h24 hC hb j (by omega)
    have bd := CC_0 (σ := σ) (R := R) (c := cp σ) j (fun i hi => hb i (by omega))
    have b := hb j (by omega)
    have e := hC j (by omega)
    have z0 : (0 : Int32).toInt = 0 := rfl
    rw [cutS, CC, bit_eq (by omega), e]
    generalize CC σ R (cp σ) j = Z at *
    unfold cp at b ⊢
    cases p : R (bf_f σ j) <;> cases q : R (bf_g σ j) <;> cases r : bit (σ 1 7) j <;> rw [r] at b <;> simp only [Bool.and_true, Bool.true_and, Bool.false_and, Bool.and_false, Bool.not_true, Bool.not_false, if_true, if_false, Bool.false_eq_true, reduceIte, show ((0 : Int32) = 1) = False from by decide] at b ⊢ <;> (first | (rw [Int32.add_zero, ih]; omega) | (rw [i_add (by omega) (by omega), ih]))
end ISF
