/-! READING: the bounds stay, also where the text has an error -/
theorem mI_m_re {σ : pr_I} {n p fn pl : Nat} {y : Int32} (h : mI σ) (hfn12 : fn ≤ 12) (hpl : mB 3 pl = some 12) : mI (m_re σ n p fn pl y) := by
  by_cases c : m_re_r σ n p fn pl y = 0
  · have e := c
    unfold m_re_r at c
    unfold m_re
    by_cases c1 : il (σ 7) n (sk (σ 7) n p) = 0
    · rw [if_pos c1]; exact (((h.upn rfl).upn rfl).upn rfl).upn rfl
    · rw [if_neg c1] at c ⊢
      by_cases c2 : nmd (σ 3) (σ 7) (sk (σ 7) n p) (we (σ 7) n (sk (σ 7) n p) - sk (σ 7) n p) fn = -1
      · rw [if_pos c2]; exact (((h.upn rfl).upn rfl).upn rfl).upn rfl
      · rw [if_neg c2] at c ⊢
        by_cases c3 : nmd (σ 3) (σ 7) (sk (σ 7) n p) (we (σ 7) n (sk (σ 7) n p) - sk (σ 7) n p) fn = y
        · rw [if_pos c3]; exact (((h.upn rfl).upn rfl).upn rfl).upn rfl
        · rw [if_neg c3] at c; exact absurd c (by decide)
  · obtain ⟨e, -, b, -⟩ := m_re_1 c
    rw [e]
    exact (((h.upn rfl).upn rfl).upv hpl (vp_in_mono ((nmd_in fn hfn12).resolve_left b) hfn12)).upn rfl
theorem mI_m_rd {σ : pr_I} {n p pl : Nat} {lo hi : Int32} (h : mI σ) (hpl : mB 3 pl = none) : mI (m_rd σ n p pl lo hi) := by
  unfold m_rd
  split
  · exact (((h.upn rfl).upn rfl).upn rfl).upn rfl
  · split
    · exact ((((h.upn rfl).upn rfl).upn rfl).upn rfl).upn rfl
    · exact (((h.upn rfl).upn rfl).upn rfl).upn hpl
set_option maxHeartbeats 1600000 in
theorem mI_m_rl {σ : pr_I} {n : Nat} {q : Nat} {fn : Nat} {fl : Nat} (hfn12 : fn ≤ 12) (hfl24 : fl ≤ 24) (h : mI σ) : mI (m_rl σ n q fn fl) := by
  unfold m_rl
  by_cases c_9 : (nI fl) = (nI 24)
  · rw [if_pos c_9]
    exact (mI.upn (mI.upn h rfl) rfl)
  · rw [if_neg c_9]
    have hfl : fl < 24 := by have : ¬ fl = 24 := fun q => c_9 (by rw [q]); omega
    by_cases c_45 : (m_re_r (pr_up σ 0 9 (nI (we (σ 7) n q))) n (we (σ 7) n q) fn (96 + 7 * fl + 0) ((-1) : Int32)) = 0
    · rw [if_pos c_45]
      exact (mI_m_re (mI.upn h rfl) hfn12 ((mW_link (k := fl) (c := 0) hfl (by decide)).trans rfl))
    · rw [if_neg c_45]
      obtain ⟨-, -, b_45, -⟩ := m_re_1 c_45
      have v45 : vp_in (nmd (σ 3) (σ 7) (sk (σ 7) n (we (σ 7) n q)) ((we (σ 7) n (sk (σ 7) n (we (σ 7) n q))) - (sk (σ 7) n (we (σ 7) n q))) fn) 12 := vp_in_mono ((nmd_in fn hfn12).resolve_left b_45) hfn12
      by_cases c_63 : (m_re_r (pr_up (pr_up (pr_up (pr_up (pr_up σ 0 9 (nI (we (σ 7) n q))) 0 9 (nI (sk (σ 7) n (we (σ 7) n q)))) 0 10 (nI (sk (σ 7) n (we (σ 7) n q)))) 3 (96 + 7 * fl + 0) (nmd (σ 3) (σ 7) (sk (σ 7) n (we (σ 7) n q)) ((we (σ 7) n (sk (σ 7) n (we (σ 7) n q))) - (sk (σ 7) n (we (σ 7) n q))) fn)) 0 9 (nI (we (σ 7) n (sk (σ 7) n (we (σ 7) n q))))) n (we (σ 7) n (sk (σ 7) n (we (σ 7) n q))) fn (96 + 7 * fl + 1) (nmd (σ 3) (σ 7) (sk (σ 7) n (we (σ 7) n q)) ((we (σ 7) n (sk (σ 7) n (we (σ 7) n q))) - (sk (σ 7) n (we (σ 7) n q))) fn)) = 0
      · rw [if_pos c_63]
        exact (mI_m_re (mI.upn (mI.upv (mI.upn (mI.upn (mI.upn h rfl) rfl) rfl) ((mW_link (k := fl) (c := 0) hfl (by decide)).trans rfl) v45) rfl) hfn12 ((mW_link (k := fl) (c := 1) hfl (by decide)).trans rfl))
      · rw [if_neg c_63]
        obtain ⟨-, -, b_63, -⟩ := m_re_1 c_63
        have v63 := vp_in_mono ((nmd_in fn hfn12).resolve_left b_63) hfn12
        by_cases c_79 : (m_rd_r (pr_up (pr_up (pr_up (pr_up (pr_up (pr_up (pr_up (pr_up (pr_up σ 0 9 (nI (we (σ 7) n q))) 0 9 (nI (sk (σ 7) n (we (σ 7) n q)))) 0 10 (nI (sk (σ 7) n (we (σ 7) n q)))) 3 (96 + 7 * fl + 0) (nmd (σ 3) (σ 7) (sk (σ 7) n (we (σ 7) n q)) ((we (σ 7) n (sk (σ 7) n (we (σ 7) n q))) - (sk (σ 7) n (we (σ 7) n q))) fn)) 0 9 (nI (we (σ 7) n (sk (σ 7) n (we (σ 7) n q))))) 0 9 (nI (sk (σ 7) n (we (σ 7) n (sk (σ 7) n (we (σ 7) n q)))))) 0 10 (nI (sk (σ 7) n (we (σ 7) n (sk (σ 7) n (we (σ 7) n q)))))) 3 (96 + 7 * fl + 1) (nmd ((pr_up (pr_up (pr_up (pr_up σ 0 9 (nI (we (σ 7) n q))) 0 9 (nI (sk (σ 7) n (we (σ 7) n q)))) 0 10 (nI (sk (σ 7) n (we (σ 7) n q)))) 3 (96 + 7 * fl + 0) (nmd (σ 3) (σ 7) (sk (σ 7) n (we (σ 7) n q)) ((we (σ 7) n (sk (σ 7) n (we (σ 7) n q))) - (sk (σ 7) n (we (σ 7) n q))) fn)) 3) (σ 7) (sk (σ 7) n (we (σ 7) n (sk (σ 7) n (we (σ 7) n q)))) ((we (σ 7) n (sk (σ 7) n (we (σ 7) n (sk (σ 7) n (we (σ 7) n q))))) - (sk (σ 7) n (we (σ 7) n (sk (σ 7) n (we (σ 7) n q))))) fn)) 0 9 (nI (we (σ 7) n (sk (σ 7) n (we (σ 7) n (sk (σ 7) n (we (σ 7) n q))))))) n (we (σ 7) n (sk (σ 7) n (we (σ 7) n (sk (σ 7) n (we (σ 7) n q))))) (96 + 7 * fl + 2) (0 : Int32) (1000 : Int32)) = 0
        · rw [if_pos c_79]
          exact (mI_m_rd (mI.upn (mI.upv (mI.upn (mI.upn (mI.upn (mI.upv (mI.upn (mI.upn (mI.upn h rfl) rfl) rfl) ((mW_link (k := fl) (c := 0) hfl (by decide)).trans rfl) v45) rfl) rfl) rfl) ((mW_link (k := fl) (c := 1) hfl (by decide)).trans rfl) v63) rfl) ((mW_link (k := fl) (c := 2) hfl (by decide)).trans rfl))
        · rw [if_neg c_79]
          by_cases c_93 : (m_rd_r (pr_up (pr_up (pr_up (pr_up (pr_up (pr_up (pr_up (pr_up (pr_up (pr_up (pr_up (pr_up (pr_up σ 0 9 (nI (we (σ 7) n q))) 0 9 (nI (sk (σ 7) n (we (σ 7) n q)))) 0 10 (nI (sk (σ 7) n (we (σ 7) n q)))) 3 (96 + 7 * fl + 0) (nmd (σ 3) (σ 7) (sk (σ 7) n (we (σ 7) n q)) ((we (σ 7) n (sk (σ 7) n (we (σ 7) n q))) - (sk (σ 7) n (we (σ 7) n q))) fn)) 0 9 (nI (we (σ 7) n (sk (σ 7) n (we (σ 7) n q))))) 0 9 (nI (sk (σ 7) n (we (σ 7) n (sk (σ 7) n (we (σ 7) n q)))))) 0 10 (nI (sk (σ 7) n (we (σ 7) n (sk (σ 7) n (we (σ 7) n q)))))) 3 (96 + 7 * fl + 1) (nmd ((pr_up (pr_up (pr_up (pr_up σ 0 9 (nI (we (σ 7) n q))) 0 9 (nI (sk (σ 7) n (we (σ 7) n q)))) 0 10 (nI (sk (σ 7) n (we (σ 7) n q)))) 3 (96 + 7 * fl + 0) (nmd (σ 3) (σ 7) (sk (σ 7) n (we (σ 7) n q)) ((we (σ 7) n (sk (σ 7) n (we (σ 7) n q))) - (sk (σ 7) n (we (σ 7) n q))) fn)) 3) (σ 7) (sk (σ 7) n (we (σ 7) n (sk (σ 7) n (we (σ 7) n q)))) ((we (σ 7) n (sk (σ 7) n (we (σ 7) n (sk (σ 7) n (we (σ 7) n q))))) - (sk (σ 7) n (we (σ 7) n (sk (σ 7) n (we (σ 7) n q))))) fn)) 0 9 (nI (we (σ 7) n (sk (σ 7) n (we (σ 7) n (sk (σ 7) n (we (σ 7) n q))))))) 0 9 (nI (sk (σ 7) n (we (σ 7) n (sk (σ 7) n (we (σ 7) n (sk (σ 7) n (we (σ 7) n q)))))))) 0 10 (nI (sk (σ 7) n (we (σ 7) n (sk (σ 7) n (we (σ 7) n (sk (σ 7) n (we (σ 7) n q)))))))) 0 9 (nI (nu (σ 7) n (sk (σ 7) n (we (σ 7) n (sk (σ 7) n (we (σ 7) n (sk (σ 7) n (we (σ 7) n q)))))) 0).1)) 3 (96 + 7 * fl + 2) ((nu (σ 7) n (sk (σ 7) n (we (σ 7) n (sk (σ 7) n (we (σ 7) n (sk (σ 7) n (we (σ 7) n q)))))) 0).2.toInt32)) n (nu (σ 7) n (sk (σ 7) n (we (σ 7) n (sk (σ 7) n (we (σ 7) n (sk (σ 7) n (we (σ 7) n q)))))) 0).1 (96 + 7 * fl + 3) (0 : Int32) (1000 : Int32)) = 0
          · rw [if_pos c_93]
            exact (mI_m_rd (mI.upn (mI.upn (mI.upn (mI.upn (mI.upn (mI.upv (mI.upn (mI.upn (mI.upn (mI.upv (mI.upn (mI.upn (mI.upn h rfl) rfl) rfl) ((mW_link (k := fl) (c := 0) hfl (by decide)).trans rfl) v45) rfl) rfl) rfl) ((mW_link (k := fl) (c := 1) hfl (by decide)).trans rfl) v63) rfl) rfl) rfl) rfl) ((mW_link (k := fl) (c := 2) hfl (by decide)).trans rfl)) ((mW_link (k := fl) (c := 3) hfl (by decide)).trans rfl))
          · rw [if_neg c_93]
            by_cases c_106 : (m_rd_r (pr_up (pr_up (pr_up (pr_up (pr_up (pr_up (pr_up (pr_up (pr_up (pr_up (pr_up (pr_up (pr_up (pr_up (pr_up (pr_up (pr_up σ 0 9 (nI (we (σ 7) n q))) 0 9 (nI (sk (σ 7) n (we (σ 7) n q)))) 0 10 (nI (sk (σ 7) n (we (σ 7) n q)))) 3 (96 + 7 * fl + 0) (nmd (σ 3) (σ 7) (sk (σ 7) n (we (σ 7) n q)) ((we (σ 7) n (sk (σ 7) n (we (σ 7) n q))) - (sk (σ 7) n (we (σ 7) n q))) fn)) 0 9 (nI (we (σ 7) n (sk (σ 7) n (we (σ 7) n q))))) 0 9 (nI (sk (σ 7) n (we (σ 7) n (sk (σ 7) n (we (σ 7) n q)))))) 0 10 (nI (sk (σ 7) n (we (σ 7) n (sk (σ 7) n (we (σ 7) n q)))))) 3 (96 + 7 * fl + 1) (nmd ((pr_up (pr_up (pr_up (pr_up σ 0 9 (nI (we (σ 7) n q))) 0 9 (nI (sk (σ 7) n (we (σ 7) n q)))) 0 10 (nI (sk (σ 7) n (we (σ 7) n q)))) 3 (96 + 7 * fl + 0) (nmd (σ 3) (σ 7) (sk (σ 7) n (we (σ 7) n q)) ((we (σ 7) n (sk (σ 7) n (we (σ 7) n q))) - (sk (σ 7) n (we (σ 7) n q))) fn)) 3) (σ 7) (sk (σ 7) n (we (σ 7) n (sk (σ 7) n (we (σ 7) n q)))) ((we (σ 7) n (sk (σ 7) n (we (σ 7) n (sk (σ 7) n (we (σ 7) n q))))) - (sk (σ 7) n (we (σ 7) n (sk (σ 7) n (we (σ 7) n q))))) fn)) 0 9 (nI (we (σ 7) n (sk (σ 7) n (we (σ 7) n (sk (σ 7) n (we (σ 7) n q))))))) 0 9 (nI (sk (σ 7) n (we (σ 7) n (sk (σ 7) n (we (σ 7) n (sk (σ 7) n (we (σ 7) n q)))))))) 0 10 (nI (sk (σ 7) n (we (σ 7) n (sk (σ 7) n (we (σ 7) n (sk (σ 7) n (we (σ 7) n q)))))))) 0 9 (nI (nu (σ 7) n (sk (σ 7) n (we (σ 7) n (sk (σ 7) n (we (σ 7) n (sk (σ 7) n (we (σ 7) n q)))))) 0).1)) 3 (96 + 7 * fl + 2) ((nu (σ 7) n (sk (σ 7) n (we (σ 7) n (sk (σ 7) n (we (σ 7) n (sk (σ 7) n (we (σ 7) n q)))))) 0).2.toInt32)) 0 9 (nI (sk (σ 7) n (nu (σ 7) n (sk (σ 7) n (we (σ 7) n (sk (σ 7) n (we (σ 7) n (sk (σ 7) n (we (σ 7) n q)))))) 0).1))) 0 10 (nI (sk (σ 7) n (nu (σ 7) n (sk (σ 7) n (we (σ 7) n (sk (σ 7) n (we (σ 7) n (sk (σ 7) n (we (σ 7) n q)))))) 0).1))) 0 9 (nI (nu (σ 7) n (sk (σ 7) n (nu (σ 7) n (sk (σ 7) n (we (σ 7) n (sk (σ 7) n (we (σ 7) n (sk (σ 7) n (we (σ 7) n q)))))) 0).1) 0).1)) 3 (96 + 7 * fl + 3) ((nu (σ 7) n (sk (σ 7) n (nu (σ 7) n (sk (σ 7) n (we (σ 7) n (sk (σ 7) n (we (σ 7) n (sk (σ 7) n (we (σ 7) n q)))))) 0).1) 0).2.toInt32)) n (nu (σ 7) n (sk (σ 7) n (nu (σ 7) n (sk (σ 7) n (we (σ 7) n (sk (σ 7) n (we (σ 7) n (sk (σ 7) n (we (σ 7) n q)))))) 0).1) 0).1 (96 + 7 * fl + 4) (1 : Int32) (50 : Int32)) = 0
            · rw [if_pos c_106]
              exact (mI_m_rd (mI.upn (mI.upn (mI.upn (mI.upn (mI.upn (mI.upn (mI.upn (mI.upn (mI.upn (mI.upv (mI.upn (mI.upn (mI.upn (mI.upv (mI.upn (mI.upn (mI.upn h rfl) rfl) rfl) ((mW_link (k := fl) (c := 0) hfl (by decide)).trans rfl) v45) rfl) rfl) rfl) ((mW_link (k := fl) (c := 1) hfl (by decide)).trans rfl) v63) rfl) rfl) rfl) rfl) ((mW_link (k := fl) (c := 2) hfl (by decide)).trans rfl)) rfl) rfl) rfl) ((mW_link (k := fl) (c := 3) hfl (by decide)).trans rfl)) ((mW_link (k := fl) (c := 4) hfl (by decide)).trans rfl))
            · rw [if_neg c_106]
              exact (mI.upv (mI.upn (mI.upn (mI.upn (mI.upn (mI.upn (mI.upn (mI.upn (mI.upn (mI.upn (mI.upn (mI.upn (mI.upn (mI.upn (mI.upn (mI.upv (mI.upn (mI.upn (mI.upn (mI.upv (mI.upn (mI.upn (mI.upn h rfl) rfl) rfl) ((mW_link (k := fl) (c := 0) hfl (by decide)).trans rfl) v45) rfl) rfl) rfl) ((mW_link (k := fl) (c := 1) hfl (by decide)).trans rfl) v63) rfl) rfl) rfl) rfl) ((mW_link (k := fl) (c := 2) hfl (by decide)).trans rfl)) rfl) rfl) rfl) ((mW_link (k := fl) (c := 3) hfl (by decide)).trans rfl)) rfl) rfl) rfl) ((mW_link (k := fl) (c := 4) hfl (by decide)).trans rfl)) ((mW_link (k := fl) (c := 5) hfl (by decide)).trans rfl)) rfl (nI_vin (n := 25) (by omega) (by decide)))
set_option maxHeartbeats 1600000 in
theorem mI_m_rg {σ : pr_I} {n : Nat} {q : Nat} {j : Nat} (h1 : 1 ≤ j) (h5 : j ≤ 5) (h : mI σ) : mI (m_rg σ n q j) := by
  unfold m_rg
  exact (mI_m_rd (mI.upn h rfl) (mB_set h1 h5))
theorem mI_rn {σ : pr_I} {n q fn : Nat} (hfn : fn < 12) (h : mI σ) (hm : ((we (σ 7) n (sk (σ 7) n (we (σ 7) n q))) - (sk (σ 7) n (we (σ 7) n q))) ≤ 6) : ∀ k, k ≤ 6 → mI (m_rn_it91 σ n q fn k)
  | 0, _ => mI.upv (B := 7) (((h.upn rfl).upn rfl).upn rfl) ((mW_node (k := fn) (c := 0) hfn (by decide)).trans rfl) (nI_vin (by omega) (by decide))
  | k + 1, hk => mI.upn (mI_rn hfn h hm k (by omega)) (show mB 3 ((12 + 7 * fn) + 1 + k) = none from by
      have e : (12 + 7 * fn) + 1 + k = 12 + 7 * fn + (1 + k) := by omega
      rw [e]
      refine (mW_node (k := fn) (c := 1 + k) hfn (by omega)).trans ?_
      unfold mN; rw [if_neg (by omega)])
set_option maxHeartbeats 1600000 in
theorem mI_m_rn {σ : pr_I} {n : Nat} {q : Nat} {fn : Nat} (hn7 : n ≤ 700) (hqn : q ≤ n) (hfn12 : fn ≤ 12) (h : mI σ) : mI (m_rn σ n q fn) := by
  have hw0 := we_le (b := σ 7) hqn
  have hs1 := sk_le (b := σ 7) hw0.2
  have hw1 := we_le (b := σ 7) hs1.2
  unfold m_rn
  by_cases c_9 : (nI fn) = (nI 12)
  · rw [if_pos c_9]
    exact (mI.upn (mI.upn h rfl) rfl)
  · rw [if_neg c_9]
    have hfn : fn < 12 := by have : ¬ fn = 12 := fun q => c_9 (by rw [q]); omega
    by_cases c_39 : (nI ((we (σ 7) n (sk (σ 7) n (we (σ 7) n q))) - (sk (σ 7) n (we (σ 7) n q)))) = 0
    · rw [if_pos c_39]
      exact (mI.upn (mI.upn (mI.upn (mI.upn (mI.upn h rfl) rfl) rfl) rfl) rfl)
    · rw [if_neg c_39]
      by_cases c_51 : (nI 6) < (nI ((we (σ 7) n (sk (σ 7) n (we (σ 7) n q))) - (sk (σ 7) n (we (σ 7) n q))))
      · rw [if_pos c_51]
        exact (mI.upn (mI.upn (mI.upn (mI.upn (mI.upn h rfl) rfl) rfl) rfl) rfl)
      · rw [if_neg c_51]
        have hm6 : ((we (σ 7) n (sk (σ 7) n (we (σ 7) n q))) - (sk (σ 7) n (we (σ 7) n q))) ≤ 6 := Nat.not_lt.mp (fun q => c_51 ((nI_ltI (by omega) (by omega)).mpr q))
        by_cases c_59 : (nmd (σ 3) (σ 7) (sk (σ 7) n (we (σ 7) n q)) ((we (σ 7) n (sk (σ 7) n (we (σ 7) n q))) - (sk (σ 7) n (we (σ 7) n q))) fn) = ((-1) : Int32)
        · rw [if_pos c_59]
          exact (mI.upn (mI.upv (mI_rn hfn h hm6 _ hm6) rfl (nI_vin (n := 13) (by omega) (by decide))) rfl)
        · rw [if_neg c_59]
          exact (mI.upn (mI.upn (mI.upn (mI.upn (mI.upn h rfl) rfl) rfl) rfl) rfl)
theorem mI_m_rs {σ : pr_I} {n p fn fl : Nat} (h : mI σ) (hn7 : n ≤ 700) (hpn : p ≤ n) (hfn12 : fn ≤ 12) (hfl24 : fl ≤ 24) : mI (m_rs σ n p fn fl) := by
  have hs1 := sk_le (b := σ 7) hpn
  have h1 : mI (pr_up (pr_up σ 0 9 (nI (sk (σ 7) n p))) 0 10 (nI (sk (σ 7) n p))) := (h.upn rfl).upn rfl
  unfold m_rs
  by_cases c0 : (iw (σ 7) n (sk (σ 7) n p) 0) = 0
  rotate_left
  · rw [if_neg c0]; exact mI_m_rn hn7 hs1.2 hfn12 h1
  rw [if_pos c0]
  by_cases c1 : (iw (σ 7) n (sk (σ 7) n p) 1) = 0
  rotate_left
  · rw [if_neg c1]; exact mI_m_rl hfn12 hfl24 h1
  rw [if_pos c1]
  by_cases c2 : (iw (σ 7) n (sk (σ 7) n p) 2) = 0
  rotate_left
  · rw [if_neg c2]; exact mI_m_rg (by decide) (by decide) h1
  rw [if_pos c2]
  by_cases c3 : (iw (σ 7) n (sk (σ 7) n p) 3) = 0
  rotate_left
  · rw [if_neg c3]; exact mI_m_rg (by decide) (by decide) h1
  rw [if_pos c3]
  by_cases c4 : (iw (σ 7) n (sk (σ 7) n p) 4) = 0
  rotate_left
  · rw [if_neg c4]; exact mI_m_rg (by decide) (by decide) h1
  rw [if_pos c4]
  by_cases c5 : (iw (σ 7) n (sk (σ 7) n p) 5) = 0
  rotate_left
  · rw [if_neg c5]; exact mI_m_rg (by decide) (by decide) h1
  rw [if_pos c5]
  by_cases c6 : (iw (σ 7) n (sk (σ 7) n p) 6) = 0
  rotate_left
  · rw [if_neg c6]; exact mI_m_rg (by decide) (by decide) h1
  rw [if_pos c6]
  exact (h1.upn rfl).upn rfl
theorem mI_ra_f {b : Nat → Int32} {n : Nat} (hn7 : n ≤ 700) : ∀ (j : Nat) (σ1 : pr_I), rk n σ1 → σ1 7 = b → m_pt σ1 ≤ n → mI (ra_f b n j σ1).1
  | 0, _, h, _, _ => h.2.2
  | j + 1, σ1, h, hb, hp => by
    subst hb
    have js := sk_le (b := σ1 7) hp
    have j12 := mI_fnn12 h.2.2
    have j24 := mI_fln24 h.2.2
    unfold ra_f
    by_cases c : bt (σ1 7) n (sk (σ1 7) n (m_pt σ1)) = (59 : Int32)
    · have hlt := bt_59 c
      rw [if_pos c]
      split
      · exact mI_m_rs (((h.2.2.upn rfl).upn rfl).upn rfl) hn7 (by omega) j12 j24
      · rename_i c2
        obtain ⟨hk2, p2, hp2, hp3, hp4⟩ := m_rs_I (rk.p (rk.b (rk.p h))) hn7 (by omega) j12 j24 c2
        exact mI_ra_f hn7 j _ hk2 ((fr_m_rs (by decide)).trans ((pr_up_ne (by decide)).trans ((pr_up_ne (by decide)).trans (pr_up_ne (by decide))))) (by rw [m_pt_eq hp4 (by omega)]; exact hp3)
    · rw [if_neg c]
      split
      · exact (((h.2.2.upn rfl).upn rfl).upn rfl).upn rfl
      · exact (((((h.2.2.upn rfl).upn rfl).upn rfl).upn rfl).upn rfl).upn rfl
theorem mI_m_ra {σ : pr_I} {n : Nat} (h : rk n σ) (hn7 : n ≤ 700) (hp : m_pt σ ≤ n) : mI (m_ra σ n) := by
  have j12 := mI_fnn12 h.2.2
  have j24 := mI_fln24 h.2.2
  unfold m_ra ra_R
  by_cases c : m_rs_r σ n (m_pt σ) (fnn σ) (fln σ) = 0
  · rw [if_pos c]; exact mI_m_rs h.2.2 hn7 hp j12 j24
  · rw [if_neg c]
    obtain ⟨hk2, p2, hp2, hp3, hp4⟩ := m_rs_I h hn7 hp j12 j24 c
    exact mI_ra_f hn7 _ _ hk2 (fr_m_rs (by decide)) (by rw [m_pt_eq hp4 (by omega)]; exact hp3)
theorem fr_ra_f {b : Nat → Int32} {n o : Nat} (hms : ∀ m ∈ ([0, 3] : List Nat), o ≠ m) : ∀ (j : Nat) (σ1 : pr_I), (ra_f b n j σ1).1 o = σ1 o
  | 0, _ => rfl
  | j + 1, σ1 => by
    have h0 : o ≠ 0 := hms 0 (by decide)
    unfold ra_f
    split
    · split
      · exact (fr_m_rs hms).trans ((pr_up_ne h0).trans ((pr_up_ne h0).trans (pr_up_ne h0)))
      · exact (fr_ra_f hms j _).trans ((fr_m_rs hms).trans ((pr_up_ne h0).trans ((pr_up_ne h0).trans (pr_up_ne h0))))
    · split
      · exact (pr_up_ne h0).trans ((pr_up_ne h0).trans ((pr_up_ne h0).trans (pr_up_ne h0)))
      · exact (pr_up_ne h0).trans ((pr_up_ne h0).trans ((pr_up_ne h0).trans ((pr_up_ne h0).trans ((pr_up_ne h0).trans (pr_up_ne h0)))))
theorem fr_m_ra {σ : pr_I} {n o : Nat} (hms : ∀ m ∈ ([0, 3] : List Nat), o ≠ m) : m_ra σ n o = σ o := by
  unfold m_ra ra_R
  split
  · exact fr_m_rs hms
  · exact (fr_ra_f hms _ _).trans (fr_m_rs hms)
