/-! THE WORLD OF BOTH: links, requests, settings, paths -/
def Up (σ μ : pr_I) : Prop := ∀ k, k < lkn σ → lk_up σ k = μ 1 (96 + 7 * k + 5)
def Pa (σ μ : pr_I) : Prop := ∀ r p, r < rqn σ → p < (σ 32 r).toNatClampNeg → σ (35 + r) p = μ 1 (264 + 28 * r + (15 + p)) ∧ vp_in (σ (35 + r) p) (lkn σ)
def Lk (σ : pr_I) : Prop := ∀ k, k < lkn σ → vp_in (σ 2 k) (ndn σ) ∧ vp_in (σ 3 k) (ndn σ) ∧ σ 2 k ≠ σ 3 k ∧ (0 ≤ (σ 5 k).toInt ∧ (σ 5 k).toInt ≤ 1000) ∧ (1 ≤ (σ 6 k).toInt ∧ (σ 6 k).toInt ≤ 50) ∧ (0 ≤ (σ 4 k).toInt ∧ (σ 4 k).toInt ≤ 1000)
def Rq (σ : pr_I) : Prop := ∀ r, r < rqn σ → vp_in (σ 19 r) (ndn σ) ∧ vp_in (σ 20 r) (ndn σ) ∧ σ 19 r ≠ σ 20 r ∧ (1 ≤ (σ 21 r).toInt ∧ (σ 21 r).toInt ≤ 1000) ∧ (1 ≤ (σ 22 r).toInt ∧ (σ 22 r).toInt ≤ 10000)
def Se (σ : pr_I) : Prop := (1 ≤ (σ 119 0).toInt ∧ (σ 119 0).toInt ≤ 500) ∧ (1 ≤ (σ 119 1).toInt ∧ (σ 119 1).toInt ≤ 100) ∧ (1 ≤ (σ 119 2).toInt ∧ (σ 119 2).toInt ≤ 9) ∧ (0 ≤ (σ 119 3).toInt ∧ (σ 119 3).toInt ≤ 100) ∧ (0 ≤ (σ 119 4).toInt ∧ (σ 119 4).toInt ≤ 100)
def Ti (σ : pr_I) : Prop := 0 ≤ (σ 0 7).toInt ∧ (σ 0 7).toInt ≤ 1100000
/-- the path and its tickets -/
def Pt (σ : pr_I) (r : Nat) : Prop := (σ 33 r).toNatClampNeg ≤ (σ 32 r).toNatClampNeg ∧ 1 ≤ (σ 32 r).toNatClampNeg ∧ (∀ p q, p < q → q < (σ 32 r).toNatClampNeg → σ (35 + r) p ≠ σ (35 + r) q) ∧
  ∀ p, p < (σ 33 r).toNatClampNeg → ∃ t, t < tkn σ ∧ σ (76 + r) p = nI t ∧ σ 10 t = nI r ∧ σ 11 t = σ (35 + r) p ∧ ∀ t', t < t' → t' < tkn σ → ¬ (σ 10 t' = nI r ∧ σ 11 t' = σ (35 + r) p)
def Pk (σ : pr_I) (r : Nat) : Prop := ∃ t, t < tkn σ ∧ σ 10 t = nI r ∧ σ 11 t = σ (35 + r) 0
def Sr (σ : pr_I) (r : Nat) : Prop := vp_in (σ 23 r) 8 ∧ ((σ 23 r = 0 ∨ σ 23 r = 1) → Pt σ r) ∧ (¬ (σ 23 r = 0 ∨ σ 23 r = 1 ∨ σ 23 r = 7) → σ 25 r = -1) ∧ (σ 23 r = 1 → Pk σ r)
def Wd (σ μ : pr_I) : Prop := Cr σ μ ∧ Up σ μ ∧ Pa σ μ ∧ Lk σ ∧ Rq σ ∧ Se σ ∧ Ti σ ∧ ∀ r, r < rqn σ → Sr σ r
section WD
variable {σ μ : pr_I}
theorem Wd.cr (h : Wd σ μ) : Cr σ μ := h.1
theorem Wd.up (h : Wd σ μ) : Up σ μ := h.2.1
theorem Wd.pa (h : Wd σ μ) : Pa σ μ := h.2.2.1
theorem Wd.lk (h : Wd σ μ) : Lk σ := h.2.2.2.1
theorem Wd.rq (h : Wd σ μ) : Rq σ := h.2.2.2.2.1
theorem Wd.se (h : Wd σ μ) : Se σ := h.2.2.2.2.2.1
theorem Wd.ti (h : Wd σ μ) : Ti σ := h.2.2.2.2.2.2.1
theorem Wd.sr (h : Wd σ μ) {r : Nat} (hr : r < rqn σ) : Sr σ r := h.2.2.2.2.2.2.2 r hr
end WD
/-- the cells of the reference that only an attempt and the links' own calls set -/
def kp (j : Nat) : Prop := (96 ≤ j ∧ j < 264 ∧ (j - 96) % 7 = 5) ∨ (264 ≤ j ∧ j < 1384 ∧ 15 ≤ (j - 264) % 28)
theorem kp_up {k : Nat} (hk : k < 24) : kp (96 + 7 * k + 5) := Or.inl ⟨by omega, by omega, by omega⟩
theorem kp_path {r p : Nat} (hr : r < 40) (hp : p < 11) : kp (264 + 28 * r + (15 + p)) := Or.inr ⟨by omega, by omega, by omega⟩
section WC
variable {σ σ' μ μ' : pr_I}
/-- rows that stay -/
theorem Up.of (h : Up σ μ) (h1 : σ' 1 = σ 1) (hm : ∀ j, kp j → μ' 1 j = μ 1 j) (hl : lkn σ ≤ 24) : Up σ' μ' := fun k hk => by
  have e : lkn σ' = lkn σ := by unfold lkn; rw [h1]
  rw [hm _ (kp_up (by omega))]
  unfold lk_up; rw [h1]
  exact h k (by omega)
theorem Pa.of (h : Pa σ μ) (h1 : σ' 1 = σ 1) (h18 : σ' 18 = σ 18) (h32 : σ' 32 = σ 32) (h35 : ∀ r, r < 40 → σ' (35 + r) = σ (35 + r)) (hm : ∀ j, kp j → μ' 1 j = μ 1 j) (hw : wI σ) : Pa σ' μ' := fun r p hr hp => by
  have e : lkn σ' = lkn σ := by unfold lkn; rw [h1]
  have e2 : rqn σ' = rqn σ := by unfold rqn; rw [h18]
  have h4 := wI_nr4 hw
  rw [h32] at hp
  have hp11 : p < 11 := by have := vp_in_lt (hw 32 r 12 rfl); omega
  rw [hm _ (kp_path (by omega) hp11), h35 r (by omega), e]
  exact h r p (by omega) hp
theorem Lk.of (h : Lk σ) (h0 : σ' 0 6 = σ 0 6) (h1 : σ' 1 8 = σ 1 8) (h2 : σ' 2 = σ 2) (h3 : σ' 3 = σ 3) (h4 : σ' 4 = σ 4) (h5 : σ' 5 = σ 5) (h6 : σ' 6 = σ 6) : Lk σ' := by
  unfold Lk lkn ndn
  rw [h0, h1, h2, h3, h4, h5, h6]; exact h
theorem Rq.of (h : Rq σ) (h0 : σ' 0 6 = σ 0 6) (h18 : σ' 18 17 = σ 18 17) (h2 : σ' 19 = σ 19) (h3 : σ' 20 = σ 20) (h4 : σ' 21 = σ 21) (h5 : σ' 22 = σ 22) : Rq σ' := by
  unfold Rq rqn ndn
  rw [h0, h18, h2, h3, h4, h5]; exact h
theorem Se.of (h : Se σ) (h1 : σ' 119 = σ 119) : Se σ' := by unfold Se; rw [h1]; exact h
theorem Ti.of (h : Ti σ) (h1 : σ' 0 7 = σ 0 7) : Ti σ' := by unfold Ti; rw [h1]; exact h
theorem Pt.of {r : Nat} (h : Pt σ r) (h9 : σ' 9 = σ 9) (h10 : σ' 10 = σ 10) (h11 : σ' 11 = σ 11) (h32 : σ' 32 = σ 32) (h33 : σ' 33 r = σ 33 r) (h35 : σ' (35 + r) = σ (35 + r)) (h76 : σ' (76 + r) = σ (76 + r)) : Pt σ' r := by
  unfold Pt tkn
  rw [h9, h10, h11, h32, h33, h35, h76]; exact h
theorem Sr.of {r : Nat} (h : Sr σ r) (h9 : σ' 9 = σ 9) (h10 : σ' 10 = σ 10) (h11 : σ' 11 = σ 11) (h32 : σ' 32 = σ 32) (h33 : σ' 33 r = σ 33 r) (h35 : σ' (35 + r) = σ (35 + r)) (h76 : σ' (76 + r) = σ (76 + r)) (h23 : σ' 23 r = σ 23 r) (h25 : σ' 25 r = σ 25 r) : Sr σ' r := by
  unfold Sr
  rw [h23, h25]
  refine ⟨h.1, fun q => (h.2.1 q).of h9 h10 h11 h32 h33 h35 h76, h.2.2.1, fun q => ?_⟩
  unfold Pk tkn
  rw [h9, h10, h11, h35]; exact h.2.2.2 q
end WC
/-! what the reference's operations leave alone -/
theorem kp_gb {μ : pr_I} {t j : Nat} {z : Int32} (hI : mI μ) (ht : t < 500) (hj : kp j) : m_gb μ t z 1 j = μ 1 j := by
  have h0 : vp_in (μ 1 (1384 + 8 * t + 0)) 40 := mI_tick hI (k := t) (c := 0) ht (by decide) rfl
  have h1 := vp_in_lt h0
  unfold m_gb kp at *
  rw [pr_upk (by omega), pr_upk (by omega)]
theorem kp_fa2 {μ : pr_I} {r j : Nat} {x : Int32} (hI : mI μ) (hj : kp j) : ∀ k, k ≤ 500 → m_fa_it2 μ r x k 1 j = μ 1 j
  | 0, _ => rfl
  | k + 1, hk => by
    have ih := kp_fa2 (r := r) (x := x) hI hj k (by omega)
    have im := mI_m_fa_it2 (r := r) (x := x) hI k (by omega)
    have e : (pr_up (m_fa_it2 μ r x k) 1 (1384 + 8 * k + 5) (3 : Int32)) 1 j = μ 1 j := by
      rw [pr_upk (by unfold kp at hj; omega)]; exact ih
    rw [m_fa_it2]
    split
    · split
      · exact ih
      · exact (kp_gb (μ := pr_up (m_fa_it2 μ r x k) 1 (1384 + 8 * k + 5) (3 : Int32)) (mI.upn im ((mW_tick (k := k) (c := 5) (by omega) (by decide)).trans rfl)) (by omega) hj).trans e
    · exact ih
theorem kp_fa {μ : pr_I} {r j : Nat} {x : Int32} (hI : mI μ) (hr : r < 40) (hx : vp_in x 24) (hj : kp j) : m_fa μ r x 1 j = μ 1 j := by
  have hxl := vp_in_lt hx
  have e := kp_fa2 (r := r) (x := x) hI hj (mtn μ) (mI_n5 hI)
  unfold m_fa
  unfold kp at hj
  rw [pr_upk (by omega), pr_upk (by omega), pr_upk (by omega), pr_upk (by omega), pr_upk (by omega), pr_upk (by omega)]
  exact e
