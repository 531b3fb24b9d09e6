/-- the worlds behind a search -/
theorem wt_fp {σ μ : pr_I} (h : WT σ μ) (tx : Tx σ) {s t : Nat} {u : Int32} (hs : s < ndn σ) : WT (fx_fp σ s t u) (m_fi (pr_up μ 0 6 (0 : Int32)) (nI s) (nI t) (m_lw_r (pr_up μ 0 6 (0 : Int32)) (mtn μ) (mln μ) u)) ∧ Tx (fx_fp σ s t u) := by
  have hnn : ndn σ ≤ 12 := Nat.le_of_lt_succ (vp_in_lt (h.1.cr.w 0 6 13 rfl))
  have f : ∀ o, o < 116 ∨ 118 < o → fx_fp σ s t u o = σ o := fun o ho => fr_pt_find (by simp only [List.mem_cons, List.not_mem_nil, or_false, forall_eq_or_imp, forall_eq]; omega)
  refine ⟨⟨h.1.mu.cong (wI_find (wI_nl24 h.1.cr.w) h.1.cr.w) (mI_m_fi h.1.mu.cr.m (nI_vin (by omega) (by decide))) f (fr_m_fi (by decide)), h.2.cong (fun o ho => f o ?_)⟩, tx.cong (fun o ho => f o ?_)⟩
  · simp only [List.mem_cons, List.not_mem_nil, or_false] at ho; omega
  · simp only [List.mem_cons, List.not_mem_nil, or_false] at ho; omega
theorem way_de {σ μ F M : pr_I} (h : WT σ μ) {n b : Nat} {ls : Nat → Nat} (f6 : F 6 = σ 6) (m1 : M 1 = μ 1) (hp : ∀ p, p < n → F 117 p = nI (ls p) ∧ M 10 p = nI (ls p) ∧ ls p < lkn σ) : ∀ k, b + k ≤ n → pt_sum_de F b k = m_df M b k
  | 0, _ => rfl
  | k + 1, hk => by
    have h24 := wI_nl24 h.1.cr.w
    have ih := way_de h f6 m1 hp (b := b) k (by omega)
    have q := hp (b + k) (by omega)
    have e : σ 6 (ls (b + k)) = μ 1 (96 + 7 * ls (b + k) + 4) := h.1.cr.link q.2.2 (c := 4) (by decide)
    rw [pt_sum_de, m_df, ih, f6, m1, q.1, q.2.1, nI_clamp (by omega), e]
/-- both sides' way, with what each says of its length -/
theorem way2 {σ μ : pr_I} (h : WT σ μ) {s t : Nat} {u : Int32} (hs : s < ndn σ) (ht : t < ndn σ) (hst : s ≠ t) : (nI (fx_len σ s t u) = 0 ∧ m_fi_r (pr_up μ 0 6 (0 : Int32)) (nI s) (nI t) (m_lw_r (pr_up μ 0 6 (0 : Int32)) (mtn μ) (mln μ) u) = 0) ∨ ∃ (n : Nat) (ls : Nat → Nat), n ≤ 11 ∧ ¬ nI (fx_len σ s t u) = 0 ∧ fx_len σ s t u = n ∧ ptm (fx_fp σ s t u) = n ∧ ¬ m_fi_r (pr_up μ 0 6 (0 : Int32)) (nI s) (nI t) (m_lw_r (pr_up μ 0 6 (0 : Int32)) (mtn μ) (mln μ) u) = 0 ∧ (m_fi (pr_up μ 0 6 (0 : Int32)) (nI s) (nI t) (m_lw_r (pr_up μ 0 6 (0 : Int32)) (mtn μ) (mln μ) u) 0 17).toNatClampNeg = n ∧ ∀ p, p < n → fx_fp σ s t u 117 p = nI (ls p) ∧ m_fi (pr_up μ 0 6 (0 : Int32)) (nI s) (nI t) (m_lw_r (pr_up μ 0 6 (0 : Int32)) (mtn μ) (mln μ) u) 10 p = nI (ls p) ∧ ls p < lkn σ := by
  have hnn : ndn σ ≤ 12 := Nat.le_of_lt_succ (vp_in_lt (h.1.cr.w 0 6 13 rfl))
  have F3 := find3 h.1.mu.bl (HU.wide h (u := u)) (nI_vin hs (by omega)) (nI_vin ht (by omega)) h.1.mu.cr.ln h.1.mu.cr.nn
  obtain ⟨_, F⟩ := find_wide h hs ht (u := u)
  unfold fx_len
  rcases F with ⟨a, b⟩ | ⟨n, ls, n11, a, b, c, d, e⟩
  · rw [a]; exact Or.inl ⟨rfl, b⟩
  · rcases F3 with g | ⟨n', ls', g1, g2, g3, _, _, _⟩
    · rw [b] at g; exact absurd g (by decide)
    · have enn : n' = n := by
        have x : fx_fp_r σ s t u = nI n' := g2
        rw [a] at x
        exact ((nI_eq (by omega) (by omega)).mp x).symm
      subst enn
      have n0 : ¬ nI n' = 0 := fun z => hst (e.mp ((nI_eq (b := 0) (by omega) (by decide)).mp z))
      have gm : ptm (fx_fp σ s t u) = n' := by
        unfold ptm
        have x : fx_fp σ s t u 116 1 = nI n' := g3
        rw [x, nI_clamp (by omega)]
      rw [a, nI_clamp (by omega)]
      exact Or.inr ⟨n', ls, n11, n0, rfl, gm, by rw [b]; decide, by rw [c, nI_clamp (by omega)], d⟩
theorem eq_roundTrip {σ μ : pr_I} (h : WT σ μ) {s t : Nat} {u : Int32} (hs : s < ndn σ) (ht : t < ndn σ) (hst : s ≠ t) : fx_roundTrip_r σ s t u = mf_roundTrip_r μ s t u := by
  unfold fx_roundTrip_r mf_roundTrip_r mfn
  rcases way2 h hs ht hst (u := u) with ⟨a, b⟩ | ⟨n, ls, n11, a, _, c, d, e, f⟩
  · rw [if_pos a, if_pos b]
  · have f6 : fx_fp σ s t u 6 = σ 6 := fr_pt_find (by decide)
    have m1 : m_fi (pr_up μ 0 6 (0 : Int32)) (nI s) (nI t) (m_lw_r (pr_up μ 0 6 (0 : Int32)) (mtn μ) (mln μ) u) 1 = μ 1 := (fr_m_fi (by decide)).trans (pr_up_ne (by decide))
    rw [if_neg a, if_neg d, c, e, way_de h f6 m1 f (b := 0) (n - 0) (by omega)]
theorem eq_neededHold {σ μ : pr_I} (h : WT σ μ) {s t : Nat} {u : Int32} (hs : s < ndn σ) (ht : t < ndn σ) (hst : s ≠ t) : fx_neededHold_r σ s t u = mf_neededHold_r μ s t u := by
  have h24 := wI_nl24 h.1.cr.w
  unfold fx_neededHold_r mf_neededHold_r
  rcases way2 h hs ht hst (u := u) with ⟨a, b⟩ | ⟨n, ls, n11, a, a2, c, d, e, f⟩
  · rw [if_pos a, if_pos b]
  · have f6 : fx_fp σ s t u 6 = σ 6 := fr_pt_find (by decide)
    have m1 : m_fi (pr_up μ 0 6 (0 : Int32)) (nI s) (nI t) (m_lw_r (pr_up μ 0 6 (0 : Int32)) (mtn μ) (mln μ) u) 1 = μ 1 := (fr_m_fi (by decide)).trans (pr_up_ne (by decide))
    have L : ∀ k, k ≤ n → fx_neededHold_it15 σ s t u k = mf_neededHold_it34 μ s t u k := by
      intro k
      induction k with
      | zero => intro _; rfl
      | succ k ih =>
        intro hk
        have q := f k (by omega)
        have e6 : σ 6 (ls k) = μ 1 (96 + 7 * ls k + 4) := h.1.cr.link q.2.2 (c := 4) (by decide)
        have w := way_de h f6 m1 f (b := k + 1) (n - (k + 1)) (by omega)
        have mm : mfn (m_fi (pr_up μ 0 6 (0 : Int32)) (nI s) (nI t) (m_lw_r (pr_up μ 0 6 (0 : Int32)) (mtn μ) (mln μ) u)) = n := e
        rw [fx_neededHold_it15, mf_neededHold_it34, ih (by omega), c, mm, w, f6, q.1, q.2.1, nI_clamp (by omega), e6]
    rw [if_neg a, if_neg d, a2, e, L n (Nat.le_refl _)]
