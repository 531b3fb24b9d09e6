/-! READING: statements, the whole text -/
def rk (n : Nat) (σ : pr_I) : Prop := σ 0 8 = nI n ∧ σ 0 12 = 0 ∧ mI σ
theorem rk.p {n : Nat} {σ : pr_I} {v : Int32} (h : rk n σ) : rk n (pr_up σ 0 9 v) := ⟨(pr_upk (by decide)).trans h.1, (pr_upk (by decide)).trans h.2.1, h.2.2.upn rfl⟩
theorem rk.b {n : Nat} {σ : pr_I} {v : Int32} (h : rk n σ) : rk n (pr_up σ 0 10 v) := ⟨(pr_upk (by decide)).trans h.1, (pr_upk (by decide)).trans h.2.1, h.2.2.upn rfl⟩
theorem rk.f {n k : Nat} {σ : pr_I} {v : Int32} (e : mB 3 k = none) (h : rk n σ) : rk n (pr_up σ 3 k v) := ⟨(pr_upv (by decide)).trans h.1, (pr_upv (by decide)).trans h.2.1, h.2.2.upn e⟩
theorem rk.fv {n k B : Nat} {σ : pr_I} {v : Int32} (e : mB 3 k = some B) (hv : vp_in v B) (h : rk n σ) : rk n (pr_up σ 3 k v) := ⟨(pr_upv (by decide)).trans h.1, (pr_upv (by decide)).trans h.2.1, h.2.2.upv e hv⟩
set_option maxHeartbeats 1600000 in
theorem m_rl_I {σ : pr_I} {n q fn fl : Nat} (h : rk n σ) (hqn : q ≤ n) (hfn12 : fn ≤ 12) (hfl24 : fl ≤ 24) (c : ¬ m_rl_r σ n q fn fl = 0) : rk n (m_rl σ n q fn fl) ∧ ∃ p, q ≤ p ∧ p ≤ n ∧ (m_rl σ n q fn fl) 0 9 = nI p := by
  unfold m_rl_r at c
  unfold m_rl
  by_cases c_9 : (nI fl) = (nI 24)
  · rw [if_pos c_9] at c; exact absurd rfl c
  rw [if_neg c_9] at c ⊢
  have hfl : fl < 24 := by have : ¬ fl = 24 := fun q => c_9 (by rw [q]); omega
  by_cases c_45 : (m_re_r (pr_up σ 0 9 (nI (we (σ 7) n q))) n (we (σ 7) n q) fn (96 + 7 * fl + 0) ((-1) : Int32)) = 0
  · rw [if_pos c_45] at c; exact absurd rfl c
  rw [if_neg c_45] at c ⊢
  obtain ⟨-, -, b_45, -⟩ := m_re_1 c_45
  have v45 : vp_in (nmd (σ 3) (σ 7) (sk (σ 7) n (we (σ 7) n q)) ((we (σ 7) n (sk (σ 7) n (we (σ 7) n q))) - (sk (σ 7) n (we (σ 7) n q))) fn) 12 := vp_in_mono ((nmd_in fn hfn12).resolve_left b_45) hfn12
  by_cases c_63 : (m_re_r (pr_up (pr_up (pr_up (pr_up (pr_up σ 0 9 (nI (we (σ 7) n q))) 0 9 (nI (sk (σ 7) n (we (σ 7) n q)))) 0 10 (nI (sk (σ 7) n (we (σ 7) n q)))) 3 (96 + 7 * fl + 0) (nmd (σ 3) (σ 7) (sk (σ 7) n (we (σ 7) n q)) ((we (σ 7) n (sk (σ 7) n (we (σ 7) n q))) - (sk (σ 7) n (we (σ 7) n q))) fn)) 0 9 (nI (we (σ 7) n (sk (σ 7) n (we (σ 7) n q))))) n (we (σ 7) n (sk (σ 7) n (we (σ 7) n q))) fn (96 + 7 * fl + 1) (nmd (σ 3) (σ 7) (sk (σ 7) n (we (σ 7) n q)) ((we (σ 7) n (sk (σ 7) n (we (σ 7) n q))) - (sk (σ 7) n (we (σ 7) n q))) fn)) = 0
  · rw [if_pos c_63] at c; exact absurd rfl c
  rw [if_neg c_63] at c ⊢
  obtain ⟨-, -, b_63, -⟩ := m_re_1 c_63
  have v63 := vp_in_mono ((nmd_in fn hfn12).resolve_left b_63) hfn12
  by_cases c_79 : (m_rd_r (pr_up (pr_up (pr_up (pr_up (pr_up (pr_up (pr_up (pr_up (pr_up σ 0 9 (nI (we (σ 7) n q))) 0 9 (nI (sk (σ 7) n (we (σ 7) n q)))) 0 10 (nI (sk (σ 7) n (we (σ 7) n q)))) 3 (96 + 7 * fl + 0) (nmd (σ 3) (σ 7) (sk (σ 7) n (we (σ 7) n q)) ((we (σ 7) n (sk (σ 7) n (we (σ 7) n q))) - (sk (σ 7) n (we (σ 7) n q))) fn)) 0 9 (nI (we (σ 7) n (sk (σ 7) n (we (σ 7) n q))))) 0 9 (nI (sk (σ 7) n (we (σ 7) n (sk (σ 7) n (we (σ 7) n q)))))) 0 10 (nI (sk (σ 7) n (we (σ 7) n (sk (σ 7) n (we (σ 7) n q)))))) 3 (96 + 7 * fl + 1) (nmd ((pr_up (pr_up (pr_up (pr_up σ 0 9 (nI (we (σ 7) n q))) 0 9 (nI (sk (σ 7) n (we (σ 7) n q)))) 0 10 (nI (sk (σ 7) n (we (σ 7) n q)))) 3 (96 + 7 * fl + 0) (nmd (σ 3) (σ 7) (sk (σ 7) n (we (σ 7) n q)) ((we (σ 7) n (sk (σ 7) n (we (σ 7) n q))) - (sk (σ 7) n (we (σ 7) n q))) fn)) 3) (σ 7) (sk (σ 7) n (we (σ 7) n (sk (σ 7) n (we (σ 7) n q)))) ((we (σ 7) n (sk (σ 7) n (we (σ 7) n (sk (σ 7) n (we (σ 7) n q))))) - (sk (σ 7) n (we (σ 7) n (sk (σ 7) n (we (σ 7) n q))))) fn)) 0 9 (nI (we (σ 7) n (sk (σ 7) n (we (σ 7) n (sk (σ 7) n (we (σ 7) n q))))))) n (we (σ 7) n (sk (σ 7) n (we (σ 7) n (sk (σ 7) n (we (σ 7) n q))))) (96 + 7 * fl + 2) (0 : Int32) (1000 : Int32)) = 0
  · rw [if_pos c_79] at c; exact absurd rfl c
  rw [if_neg c_79] at c ⊢
  by_cases c_93 : (m_rd_r (pr_up (pr_up (pr_up (pr_up (pr_up (pr_up (pr_up (pr_up (pr_up (pr_up (pr_up (pr_up (pr_up σ 0 9 (nI (we (σ 7) n q))) 0 9 (nI (sk (σ 7) n (we (σ 7) n q)))) 0 10 (nI (sk (σ 7) n (we (σ 7) n q)))) 3 (96 + 7 * fl + 0) (nmd (σ 3) (σ 7) (sk (σ 7) n (we (σ 7) n q)) ((we (σ 7) n (sk (σ 7) n (we (σ 7) n q))) - (sk (σ 7) n (we (σ 7) n q))) fn)) 0 9 (nI (we (σ 7) n (sk (σ 7) n (we (σ 7) n q))))) 0 9 (nI (sk (σ 7) n (we (σ 7) n (sk (σ 7) n (we (σ 7) n q)))))) 0 10 (nI (sk (σ 7) n (we (σ 7) n (sk (σ 7) n (we (σ 7) n q)))))) 3 (96 + 7 * fl + 1) (nmd ((pr_up (pr_up (pr_up (pr_up σ 0 9 (nI (we (σ 7) n q))) 0 9 (nI (sk (σ 7) n (we (σ 7) n q)))) 0 10 (nI (sk (σ 7) n (we (σ 7) n q)))) 3 (96 + 7 * fl + 0) (nmd (σ 3) (σ 7) (sk (σ 7) n (we (σ 7) n q)) ((we (σ 7) n (sk (σ 7) n (we (σ 7) n q))) - (sk (σ 7) n (we (σ 7) n q))) fn)) 3) (σ 7) (sk (σ 7) n (we (σ 7) n (sk (σ 7) n (we (σ 7) n q)))) ((we (σ 7) n (sk (σ 7) n (we (σ 7) n (sk (σ 7) n (we (σ 7) n q))))) - (sk (σ 7) n (we (σ 7) n (sk (σ 7) n (we (σ 7) n q))))) fn)) 0 9 (nI (we (σ 7) n (sk (σ 7) n (we (σ 7) n (sk (σ 7) n (we (σ 7) n q))))))) 0 9 (nI (sk (σ 7) n (we (σ 7) n (sk (σ 7) n (we (σ 7) n (sk (σ 7) n (we (σ 7) n q)))))))) 0 10 (nI (sk (σ 7) n (we (σ 7) n (sk (σ 7) n (we (σ 7) n (sk (σ 7) n (we (σ 7) n q)))))))) 0 9 (nI (nu (σ 7) n (sk (σ 7) n (we (σ 7) n (sk (σ 7) n (we (σ 7) n (sk (σ 7) n (we (σ 7) n q)))))) 0).1)) 3 (96 + 7 * fl + 2) ((nu (σ 7) n (sk (σ 7) n (we (σ 7) n (sk (σ 7) n (we (σ 7) n (sk (σ 7) n (we (σ 7) n q)))))) 0).2.toInt32)) n (nu (σ 7) n (sk (σ 7) n (we (σ 7) n (sk (σ 7) n (we (σ 7) n (sk (σ 7) n (we (σ 7) n q)))))) 0).1 (96 + 7 * fl + 3) (0 : Int32) (1000 : Int32)) = 0
  · rw [if_pos c_93] at c; exact absurd rfl c
  rw [if_neg c_93] at c ⊢
  by_cases c_106 : (m_rd_r (pr_up (pr_up (pr_up (pr_up (pr_up (pr_up (pr_up (pr_up (pr_up (pr_up (pr_up (pr_up (pr_up (pr_up (pr_up (pr_up (pr_up σ 0 9 (nI (we (σ 7) n q))) 0 9 (nI (sk (σ 7) n (we (σ 7) n q)))) 0 10 (nI (sk (σ 7) n (we (σ 7) n q)))) 3 (96 + 7 * fl + 0) (nmd (σ 3) (σ 7) (sk (σ 7) n (we (σ 7) n q)) ((we (σ 7) n (sk (σ 7) n (we (σ 7) n q))) - (sk (σ 7) n (we (σ 7) n q))) fn)) 0 9 (nI (we (σ 7) n (sk (σ 7) n (we (σ 7) n q))))) 0 9 (nI (sk (σ 7) n (we (σ 7) n (sk (σ 7) n (we (σ 7) n q)))))) 0 10 (nI (sk (σ 7) n (we (σ 7) n (sk (σ 7) n (we (σ 7) n q)))))) 3 (96 + 7 * fl + 1) (nmd ((pr_up (pr_up (pr_up (pr_up σ 0 9 (nI (we (σ 7) n q))) 0 9 (nI (sk (σ 7) n (we (σ 7) n q)))) 0 10 (nI (sk (σ 7) n (we (σ 7) n q)))) 3 (96 + 7 * fl + 0) (nmd (σ 3) (σ 7) (sk (σ 7) n (we (σ 7) n q)) ((we (σ 7) n (sk (σ 7) n (we (σ 7) n q))) - (sk (σ 7) n (we (σ 7) n q))) fn)) 3) (σ 7) (sk (σ 7) n (we (σ 7) n (sk (σ 7) n (we (σ 7) n q)))) ((we (σ 7) n (sk (σ 7) n (we (σ 7) n (sk (σ 7) n (we (σ 7) n q))))) - (sk (σ 7) n (we (σ 7) n (sk (σ 7) n (we (σ 7) n q))))) fn)) 0 9 (nI (we (σ 7) n (sk (σ 7) n (we (σ 7) n (sk (σ 7) n (we (σ 7) n q))))))) 0 9 (nI (sk (σ 7) n (we (σ 7) n (sk (σ 7) n (we (σ 7) n (sk (σ 7) n (we (σ 7) n q)))))))) 0 10 (nI (sk (σ 7) n (we (σ 7) n (sk (σ 7) n (we (σ 7) n (sk (σ 7) n (we (σ 7) n q)))))))) 0 9 (nI (nu (σ 7) n (sk (σ 7) n (we (σ 7) n (sk (σ 7) n (we (σ 7) n (sk (σ 7) n (we (σ 7) n q)))))) 0).1)) 3 (96 + 7 * fl + 2) ((nu (σ 7) n (sk (σ 7) n (we (σ 7) n (sk (σ 7) n (we (σ 7) n (sk (σ 7) n (we (σ 7) n q)))))) 0).2.toInt32)) 0 9 (nI (sk (σ 7) n (nu (σ 7) n (sk (σ 7) n (we (σ 7) n (sk (σ 7) n (we (σ 7) n (sk (σ 7) n (we (σ 7) n q)))))) 0).1))) 0 10 (nI (sk (σ 7) n (nu (σ 7) n (sk (σ 7) n (we (σ 7) n (sk (σ 7) n (we (σ 7) n (sk (σ 7) n (we (σ 7) n q)))))) 0).1))) 0 9 (nI (nu (σ 7) n (sk (σ 7) n (nu (σ 7) n (sk (σ 7) n (we (σ 7) n (sk (σ 7) n (we (σ 7) n (sk (σ 7) n (we (σ 7) n q)))))) 0).1) 0).1)) 3 (96 + 7 * fl + 3) ((nu (σ 7) n (sk (σ 7) n (nu (σ 7) n (sk (σ 7) n (we (σ 7) n (sk (σ 7) n (we (σ 7) n (sk (σ 7) n (we (σ 7) n q)))))) 0).1) 0).2.toInt32)) n (nu (σ 7) n (sk (σ 7) n (nu (σ 7) n (sk (σ 7) n (we (σ 7) n (sk (σ 7) n (we (σ 7) n (sk (σ 7) n (we (σ 7) n q)))))) 0).1) 0).1 (96 + 7 * fl + 4) (1 : Int32) (50 : Int32)) = 0
  · rw [if_pos c_106] at c; exact absurd rfl c
  rw [if_neg c_106] at c ⊢
  have hw0 := we_le (b := σ 7) hqn
  have hs1 := sk_le (b := σ 7) hw0.2
  have hw1 := we_le (b := σ 7) hs1.2
  have hs2 := sk_le (b := σ 7) hw1.2
  have hw2 := we_le (b := σ 7) hs2.2
  have hs3 := sk_le (b := σ 7) hw2.2
  have hw3 := nu_le1 (b := σ 7) (v := 0) hs3.2
  have hs4 := sk_le (b := σ 7) hw3.2
  have hw4 := nu_le1 (b := σ 7) (v := 0) hs4.2
  have hs5 := sk_le (b := σ 7) hw4.2
  have hw5 := nu_le1 (b := σ 7) (v := 0) hs5.2
  exact ⟨(rk.fv (B := 25) rfl (nI_vin (by omega) (by decide)) (rk.f ((mW_link (k := fl) (c := 5) hfl (by decide)).trans rfl) (rk.f ((mW_link (k := fl) (c := 4) hfl (by decide)).trans rfl) (rk.p (rk.b (rk.p (rk.f ((mW_link (k := fl) (c := 3) hfl (by decide)).trans rfl) (rk.p (rk.b (rk.p (rk.f ((mW_link (k := fl) (c := 2) hfl (by decide)).trans rfl) (rk.p (rk.b (rk.p (rk.p (rk.fv (B := 12) ((mW_link (k := fl) (c := 1) hfl (by decide)).trans rfl) v63 (rk.b (rk.p (rk.p (rk.fv (B := 12) ((mW_link (k := fl) (c := 0) hfl (by decide)).trans rfl) v45 (rk.b (rk.p (rk.p h))))))))))))))))))))))), (nu (σ 7) n (sk (σ 7) n ((nu (σ 7) n (sk (σ 7) n ((nu (σ 7) n (sk (σ 7) n (we (σ 7) n (sk (σ 7) n (we (σ 7) n (sk (σ 7) n (we (σ 7) n q)))))) 0).1)) 0).1)) 0).1, by omega, by omega, (pr_upv (by decide)).trans ((pr_upv (by decide)).trans ((pr_upv (by decide)).trans pr_upe))⟩
theorem mB_set {j : Nat} (h1 : 1 ≤ j) (h5 : j ≤ 5) : mB 3 j = none := by
  rcases (by omega : j = 1 ∨ j = 2 ∨ j = 3 ∨ j = 4 ∨ j = 5) with rfl | rfl | rfl | rfl | rfl <;> rfl
theorem m_rg_I {σ : pr_I} {n q j : Nat} (h : rk n σ) (hqn : q ≤ n) (h1 : 1 ≤ j) (h5 : j ≤ 5) (c : ¬ m_rg_r σ n q j = 0) : rk n (m_rg σ n q j) ∧ ∃ p, q ≤ p ∧ p ≤ n ∧ (m_rg σ n q j) 0 9 = nI p := by
  unfold m_rg_r at c
  unfold m_rg
  have c2 : ¬ m_rd_r (pr_up σ 0 9 (nI (we (σ 7) n q))) n (we (σ 7) n q) j (m_lst j) (m_mst j) = 0 := fun e => by rw [if_pos e] at c; exact absurd rfl c
  rw [(m_rd_1 c2).1]
  have hw0 := we_le (b := σ 7) hqn
  have hs1 := sk_le (b := σ 7) hw0.2
  have hw1 := nu_le1 (b := σ 7) (v := 0) hs1.2
  exact ⟨(rk.f (mB_set h1 h5) (rk.p (rk.b (rk.p (rk.p h))))), (nu (σ 7) n (sk (σ 7) n (we (σ 7) n q)) 0).1, by omega, by omega, (pr_upv (by decide)).trans pr_upe⟩
theorem rk_rn {σ : pr_I} {n q fn : Nat} (hfn : fn < 12) (h : rk n σ) (hm : ((we (σ 7) n (sk (σ 7) n (we (σ 7) n q))) - (sk (σ 7) n (we (σ 7) n q))) ≤ 6) : ∀ k, k ≤ 6 → rk n (m_rn_it91 σ n q fn k)
  | 0, _ => rk.fv (B := 7) ((mW_node (k := fn) (c := 0) hfn (by decide)).trans rfl) (nI_vin (by omega) (by decide)) (rk.b (rk.p (rk.p h)))
  | k + 1, hk => rk.f (show mB 3 ((12 + 7 * fn) + 1 + k) = none from by
      have e : (12 + 7 * fn) + 1 + k = 12 + 7 * fn + (1 + k) := by omega
      rw [e]
      refine (mW_node (k := fn) (c := 1 + k) hfn (by omega)).trans ?_
      unfold mN; rw [if_neg (by omega)]) (rk_rn hfn h hm k (by omega))
theorem m_rn_I {σ : pr_I} {n q fn : Nat} (h : rk n σ) (hn7 : n ≤ 700) (hqn : q ≤ n) (hfn12 : fn ≤ 12) (c : ¬ m_rn_r σ n q fn = 0) : rk n (m_rn σ n q fn) ∧ ∃ p, q ≤ p ∧ p ≤ n ∧ (m_rn σ n q fn) 0 9 = nI p := by
  unfold m_rn_r at c
  unfold m_rn
  have hw0 := we_le (b := σ 7) hqn
  have hs1 := sk_le (b := σ 7) hw0.2
  have hw1 := we_le (b := σ 7) hs1.2
  by_cases c_9 : (nI fn) = (nI 12)
  · rw [if_pos c_9] at c; exact absurd rfl c
  rw [if_neg c_9] at c ⊢
  have hfn : fn < 12 := by have : ¬ fn = 12 := fun q => c_9 (by rw [q]); omega
  by_cases c_39 : (nI ((we (σ 7) n (sk (σ 7) n (we (σ 7) n q))) - (sk (σ 7) n (we (σ 7) n q)))) = 0
  · rw [if_pos c_39] at c; exact absurd rfl c
  rw [if_neg c_39] at c ⊢
  by_cases c_51 : (nI 6) < (nI ((we (σ 7) n (sk (σ 7) n (we (σ 7) n q))) - (sk (σ 7) n (we (σ 7) n q))))
  · rw [if_pos c_51] at c; exact absurd rfl c
  rw [if_neg c_51] at c ⊢
  by_cases c_59 : (nmd (σ 3) (σ 7) (sk (σ 7) n (we (σ 7) n q)) ((we (σ 7) n (sk (σ 7) n (we (σ 7) n q))) - (sk (σ 7) n (we (σ 7) n q))) fn) = ((-1) : Int32)
  rotate_left
  · rw [if_neg c_59] at c; exact absurd rfl c
  rw [if_pos c_59] at c ⊢
  have hm6 : ((we (σ 7) n (sk (σ 7) n (we (σ 7) n q))) - (sk (σ 7) n (we (σ 7) n q))) ≤ 6 := Nat.not_lt.mp (fun q => c_51 ((nI_ltI (by omega) (by omega)).mpr q))
  exact ⟨rk.p (rk.fv (B := 13) rfl (nI_vin (by omega) (by decide)) (rk_rn hfn h hm6 _ hm6)), (we (σ 7) n (sk (σ 7) n (we (σ 7) n q))), by omega, by omega, pr_upe⟩
