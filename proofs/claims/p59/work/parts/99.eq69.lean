/-! A CONFIGURATION ON BOTH SIDES: the loop over its statements -/
theorem sk_out {b : Nat → Int32} {n : Nat} : ∀ (m p : Nat), n - p = m → ¬ (sk b n p < n ∧ b (sk b n p) = 32)
  | 0, p, hm => by
    have c : ¬ (p < n ∧ b p = 32) := fun z => by have := z.1; omega
    rw [sk_stop c]; exact c
  | m + 1, p, hm => by
    by_cases c : p < n ∧ b p = 32
    · rw [sk_step c.1 c.2]; exact sk_out m (p + 1) (by omega)
    · rw [sk_stop c]; exact c
theorem sk_sk {b : Nat → Int32} {n p : Nat} : sk b n (sk b n p) = sk b n p := sk_stop (sk_out (n - p) p rfl)
theorem ri_err {φ ψ : pr_I} {μ : Nat → Int64} {k : Nat} (h : ¬ φ 0 0 = 0) : ∀ j, (ri_rl j k φ ψ μ).1 = φ
  | 0 => rfl
  | j + 1 => by
    rw [ri_rl, if_neg h, ite_self]
section RIL
variable {b : Nat → Int32} {n : Nat}
theorem SK.st {φ τ : pr_I} {ν : Nat → Int64} {e w : Int32} {p : Nat} (s : SK φ e w) (h : IS φ b n p) : SK (in_st φ τ ν) e w := by
  obtain ⟨p', I, S⟩ := s.rdw h
  unfold in_st
  rw [if_neg (by rw [S.1]; exact S.2.2)]
  exact S
theorem IS.en {φ : pr_I} {p : Nat} (h : IS φ b n p) : in_end φ = pr_up φ 0 4 (nI (sk b n p)) ∧ (in_end_r φ = 0 ↔ sk b n p < n) := by
  obtain ⟨e, _, s2⟩ := h.skp
  have n7 := h.2.2.2.1
  have i := h.at s2
  refine ⟨e, ?_⟩
  unfold in_end_r
  rw [e, i.1, i.2.1]
  by_cases c : sk b n p < n
  · rw [if_pos (lt_i.mpr (by rw [nI_toI (by omega), nI_toI (by omega)]; omega))]
    exact ⟨fun _ => c, fun _ => rfl⟩
  · rw [if_neg (fun z => by have := lt_i.mp z; rw [nI_toI (by omega), nI_toI (by omega)] at this; omega)]
    exact ⟨fun z => absurd z (by decide), fun z => absurd z c⟩
theorem IS.se {φ : pr_I} {p : Nat} (h : IS φ b n p) (hp : p < n) : in_semi φ = if b p = 59 then pr_up φ 0 4 (nI (p + 1)) else in_fail φ 1 (nI p) := by
  obtain ⟨h1, h2, h3, h4, h5⟩ := h
  unfold in_semi
  rw [h1, h2, if_neg (fun z => by have := (nI_leI (by omega) (by omega)).mp z; omega), nI_clamp (by omega), nI_1]
  by_cases c : b p = 59
  · rw [if_pos c, if_pos ((h5.eq hp (by decide) (by decide)).mpr c)]
  · rw [if_neg c, if_neg (fun z => c ((h5.eq hp (by decide) (by decide)).mp z))]
theorem LD.fq {τ X : pr_I} {ν : Nat → Int64} {fn fl : Nat} (h : LD τ ν (X 3) fn fl) : fnn X = fn ∧ fln X = fl := by
  unfold fnn fln
  rw [h.1.1.2.1, h.1.2.1.2.1, nI_clamp (by have := h.1.1.2.2; omega), nI_clamp (by have := h.1.2.1.2.2; omega)]
  exact ⟨rfl, rfl⟩
end RIL
/-- how both end -/
def RE (R : pr_I × pr_I × (Nat → Int64)) (S : pr_I × Int32) : Prop := (S.2 = 1 ∧ R.1 0 0 = 0 ∧ S.1 0 12 = 0 ∧ ∃ fn fl, LD R.2.1 R.2.2 (S.1 3) fn fl) ∨ (S.2 = 0 ∧ BD R.1 S.1)
theorem ri_loop {b : Nat → Int32} {n : Nat} : ∀ (m p k j j' : Nat) (φ X τ : pr_I) (ν : Nat → Int64) (fn fl : Nat), n - p ≤ m → m + 1 ≤ j → m + 1 ≤ j' → k ≤ p → IS φ b n p → φ 0 0 = 0 → X 7 = b → X 0 9 = nI p → rk n X → LD τ ν (X 3) fn fl → RE (ri_rl j k φ τ ν) (ra_f b n j' X)
  | m, p, k, j, j', φ, X, τ, ν, fn, fl, hm, hj, hj', hk, h, h0, h7, h9, hr, ld => by
    obtain ⟨j, rfl⟩ : ∃ i, j = i + 1 := ⟨j - 1, by omega⟩
    obtain ⟨j', rfl⟩ : ∃ i, j' = i + 1 := ⟨j' - 1, by omega⟩
    have n7 := h.2.2.2.1
    have pn := h.2.2.1
    obtain ⟨s1, s2⟩ := sk_le (b := b) pn
    obtain ⟨E, Er⟩ := h.en
    have mp : m_pt X = p := m_pt_eq h9 (by omega)
    have i1 := h.at s2
    have fin : sk b n p = n → (ra_f b n (j' + 1) X) = ((pr_up (pr_up (pr_up (pr_up X 0 9 (nI (sk b n (m_pt X)))) 0 10 (nI (sk b n (m_pt X)))) 0 9 (nI (sk b n (sk b n (m_pt X))))) 0 10 (nI (sk b n (sk b n (m_pt X))))), 1) := fun e => by
      have q : bt b n n = -1 := if_neg (by omega)
      rw [ra_f, mp, e, if_neg (by rw [q]; decide), sk_stop (b := b) (n := n) (p := n) (fun z => by omega), if_pos q]
    have good : ∀ R1 : pr_I, R1 0 0 = 0 → sk b n p = n → RE (R1, τ, ν) (ra_f b n (j' + 1) X) := fun R1 q e => by
      rw [fin e]
      refine Or.inl ⟨rfl, q, ?_, fn, fl, ?_⟩
      · show (pr_up (pr_up (pr_up (pr_up X 0 9 (nI (sk b n (m_pt X)))) 0 10 (nI (sk b n (m_pt X)))) 0 9 (nI (sk b n (sk b n (m_pt X))))) 0 10 (nI (sk b n (sk b n (m_pt X))))) 0 12 = 0
        rw [u1012, u912, u1012, u912]; exact hr.2.1
      · show LD τ ν ((pr_up (pr_up (pr_up (pr_up X 0 9 (nI (sk b n (m_pt X)))) 0 10 (nI (sk b n (m_pt X)))) 0 9 (nI (sk b n (sk b n (m_pt X))))) 0 10 (nI (sk b n (sk b n (m_pt X))))) 3) fn fl
        rw [u03, u03, u03, u03]; exact ld
    rw [ri_rl]
    by_cases c7 : (nI 700 : Int32) ≤ nI k
    · have := (nI_leI (by omega) (by omega)).mp c7
      rw [if_pos c7]
      exact good φ h0 (by omega)
    rw [if_neg c7, if_pos h0]
    by_cases c : sk b n p < n
    rotate_left
    · rw [if_neg (fun z => c (Er.mp z)), E]
      exact good _ (at_e.1.trans h0) (by omega)
    rw [if_pos (Er.mpr c), E, i1.se c]
    have bs : bt b n (sk b n p) = b (sk b n p) := if_pos c
    by_cases d : b (sk b n p) = 59
    · have i2 := i1.at (q := sk b n p + 1) (by omega)
      rw [if_pos d, ra_f, mp, if_pos (by rw [bs]; exact d), ld.fq.1, ld.fq.2]
      have x7 : (pr_up (pr_up (pr_up X 0 9 (nI (sk b n p))) 0 10 (nI (sk b n p))) 0 9 (nI (sk b n p + 1))) 7 = b := by rw [u07, u07, u07]; exact h7
      have x12 : (pr_up (pr_up (pr_up X 0 9 (nI (sk b n p))) 0 10 (nI (sk b n p))) 0 9 (nI (sk b n p + 1))) 0 12 = 0 := by rw [u912, u1012, u912]; exact hr.2.1
      have x8 : (pr_up (pr_up (pr_up X 0 9 (nI (sk b n p))) 0 10 (nI (sk b n p))) 0 9 (nI (sk b n p + 1))) 0 8 = nI n := by
        rw [pr_upk (by decide), pr_upk (by decide), pr_upk (by decide)]; exact hr.1
      have xk : rk n (pr_up (pr_up (pr_up X 0 9 (nI (sk b n p))) 0 10 (nI (sk b n p))) 0 9 (nI (sk b n p + 1))) := ⟨x8, x12, mI.upn (mI.upn (mI.upn hr.2.2 rfl) rfl) rfl⟩
      have xl : LD τ ν ((pr_up (pr_up (pr_up X 0 9 (nI (sk b n p))) 0 10 (nI (sk b n p))) 0 9 (nI (sk b n p + 1))) 3) fn fl := by rw [u03, u03, u03]; exact ld
      have nI1 : (nI (sk b n p) + 1 : Int32) = nI (sk b n p + 1) := nI_1 _
      rcases st_pair i2 (at_e.1.trans (at_e.1.trans h0)) x7 x12 xl with ⟨q, p2, fn2, fl2, y1, y2, y3, y4, y5, y6⟩ | ⟨q, B⟩
      · rw [if_neg q]
        obtain ⟨k1, p3, k2, k3, k4⟩ := m_rs_I xk n7 (p := sk b n p + 1) (by omega) ld.1.1.2.2 ld.1.2.1.2.2 q
        have e3 : p2 = p3 := (nI_eq (by have := y1.2.2.1; omega) (by omega)).mp (y4.symm.trans k4)
        have sm : n - p2 < n - p := by omega
        match m, hm, hj, hj' with
        | 0, hm, _, _ => omega
        | m + 1, hm, hj, hj' => exact ri_loop m p2 (k + 1) j j' _ _ _ _ fn2 fl2 (by omega) (by omega) (by omega) (by omega) y1 y2 y3 y4 k1 y6
      · rw [if_pos q]
        refine Or.inr ⟨rfl, ?_⟩
        rw [ri_err B.1]
        exact B
    · rw [if_neg d, ra_f, mp, if_neg (by rw [bs]; exact d), sk_sk, if_neg (by
        rw [bs]
        intro z
        have t := (h.2.2.2.2 (sk b n p) c).1
        rw [z] at t
        exact absurd t (by decide))]
      have S := (SK.of (φ := pr_up φ 0 4 (nI (sk b n p))) (e := 1) (w := nI (sk b n p)) (at_e.1.trans h0) (by decide)).st (τ := τ) (ν := ν) i1.err
      refine Or.inr ⟨rfl, ?_⟩
      rw [ri_err (by rw [S.1]; exact S.2.2)]
      refine S.bd ?_ ?_
      · dsimp only
        rw [pr_upk (by decide), pr_upe]
      · dsimp only
        rw [pr_upe]
