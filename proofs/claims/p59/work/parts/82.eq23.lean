/-! A NEW REQUEST ON BOTH SIDES -/
section MKE
variable {σ μ : pr_I} {s t u q : Int32}
theorem mk_in : ∀ k c, c < k → m_mk_it12 μ s t u q k 1 (264 + 28 * mrn μ + c) = 0
  | 0, _, h => absurd h (by omega)
  | k + 1, c, h => by
    rw [m_mk_it12]
    by_cases e : c = k
    · rw [e, pr_upe]
    · rw [pr_upk (by omega)]; exact mk_in k c (by omega)
theorem mk_out {j : Nat} (hj : j < 264 + 28 * mrn μ ∨ 264 + 28 * mrn μ + 28 ≤ j) : ∀ k, k ≤ 28 → m_mk_it12 μ s t u q k 1 j = μ 1 j
  | 0, _ => rfl
  | k + 1, h => by
    rw [m_mk_it12, pr_upk (by omega)]; exact mk_out hj k (by omega)
theorem mI_m_mk0 (hI : mI μ) (hs : vp_in s 12) (ht : vp_in t 12) (hr40 : mrn μ < 40) : mI (m_mk0 μ s t u q) := by
  unfold m_mk0
  exact mI.upv (mI.upn (mI.upn (mI.upn (mI.upn (mI.upn (mI.upv (mI.upv (mI_m_mk_it12 hI hr40 28 (by omega)) ((mW_req (k := mrn μ) (c := 0) (by omega) (by decide)).trans rfl) hs) ((mW_req (k := mrn μ) (c := 1) (by omega) (by decide)).trans rfl) ht) ((mW_req (k := mrn μ) (c := 2) (by omega) (by decide)).trans rfl)) ((mW_req (k := mrn μ) (c := 3) (by omega) (by decide)).trans rfl)) ((mW_req (k := mrn μ) (c := 10) (by omega) (by decide)).trans rfl)) ((mW_req (k := mrn μ) (c := 11) (by omega) (by decide)).trans rfl)) ((mW_req (k := mrn μ) (c := 12) (by omega) (by decide)).trans rfl)) rfl (nI_vin (by omega) (by decide))
/-- the reference's new request, its state and due as the class has them -/
noncomputable def mk1 (μ : pr_I) (s t u q now : Int32) : pr_I := pr_up (pr_up (m_mk0 μ s t u q) 1 (264 + 28 * mrn μ + 4) 7) 1 (264 + 28 * mrn μ + 6) now
theorem mk1_out {now : Int32} {j : Nat} (h8 : j ≠ 8) (hj : j < 264 + 28 * mrn μ ∨ 264 + 28 * mrn μ + 28 ≤ j) : mk1 μ s t u q now 1 j = μ 1 j := by
  unfold mk1 m_mk0
  rw [pr_upk (by omega), pr_upk (by omega), pr_upk (by omega), pr_upk (by omega), pr_upk (by omega), pr_upk (by omega), pr_upk (by omega), pr_upk (by omega), pr_upk (by omega), pr_upk (by omega)]
  exact mk_out hj 28 (Nat.le_refl _)
theorem mk1_8 {now : Int32} : mk1 μ s t u q now 1 8 = nI (mrn μ + 1) := by
  unfold mk1 m_mk0
  rw [pr_upk (by omega), pr_upk (by omega), pr_upe]
def mkv (s t u q now : Int32) (c : Nat) : Int32 := if c = 0 then s else if c = 1 then t else if c = 2 then u else if c = 3 then q else if c = 4 then 7 else if c = 6 then now else if c = 10 then -1 else if c = 11 then -1 else if c = 12 then -1 else 0
theorem mk1_in {now : Int32} {c : Nat} (hc : c < 15) : mk1 μ s t u q now 1 (264 + 28 * mrn μ + c) = mkv s t u q now c := by
  unfold mk1 m_mk0 mkv
  by_cases c6 : c = 6
  · subst c6; rw [pr_upe]; rfl
  rw [pr_upk (by omega)]
  by_cases c4 : c = 4
  · subst c4; rw [pr_upe]; rfl
  rw [pr_upk (by omega), pr_upk (by omega)]
  by_cases c12 : c = 12
  · subst c12; rw [pr_upe]; rfl
  rw [pr_upk (by omega)]
  by_cases c11 : c = 11
  · subst c11; rw [pr_upe]; rfl
  rw [pr_upk (by omega)]
  by_cases c10 : c = 10
  · subst c10; rw [pr_upe]; rfl
  rw [pr_upk (by omega)]
  by_cases c3 : c = 3
  · subst c3; rw [pr_upe]; rfl
  rw [pr_upk (by omega)]
  by_cases c2 : c = 2
  · subst c2; rw [pr_upe]; rfl
  rw [pr_upk (by omega)]
  by_cases c1 : c = 1
  · subst c1; rw [pr_upe]; rfl
  rw [pr_upk (by omega)]
  by_cases c0 : c = 0
  · subst c0; rw [pr_upe]; rfl
  rw [pr_upk (by omega), mk_in 28 c (by omega), if_neg c0, if_neg c1, if_neg c2, if_neg c3, if_neg c4, if_neg c6, if_neg c10, if_neg c11, if_neg c12]
theorem rq_in {nr c : Nat} {now : Int32} (hc : c < 15) : rq_add σ nr s t u q now (19 + c) nr = mkv s t u q now c := by
  unfold rq_add mkv
  rcases (by omega : c = 0 ∨ c = 1 ∨ c = 2 ∨ c = 3 ∨ c = 4 ∨ c = 5 ∨ c = 6 ∨ c = 7 ∨ c = 8 ∨ c = 9 ∨ c = 10 ∨ c = 11 ∨ c = 12 ∨ c = 13 ∨ c = 14) with rfl | rfl | rfl | rfl | rfl | rfl | rfl | rfl | rfl | rfl | rfl | rfl | rfl | rfl | rfl <;> simp [pr_up]
theorem rq_out {nr o r : Nat} {now : Int32} (ho : o ≠ 18) (h : r ≠ nr) : rq_add σ nr s t u q now o r = σ o r := by
  unfold rq_add
  simp [pr_up, h, ho]
theorem rq_18 {nr : Nat} {now : Int32} : rq_add σ nr s t u q now 18 17 = nI (nr + 1) := by
  unfold rq_add
  rw [pr_upe]
end MKE
