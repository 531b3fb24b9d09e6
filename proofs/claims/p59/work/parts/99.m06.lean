/-! FORWARD AND BACK: what is kept stays -/
section JFB
variable {σ μ : pr_I}
def icv (σ : pr_I) (r k0 : Nat) (x : Int32) : Nat → Int32
  | 10 => nI r
  | 11 => x
  | 12 => σ 21 r
  | 13 => σ 0 7
  | 14 => σ 0 7 + σ 119 0
  | 15 => 0
  | 16 => σ 5 k0 * σ 21 r
  | _ => 0
theorem iss_c {n r : Nat} {x : Int32} (o t : Nat) (ho : 9 < o ∧ o < 18) : w_issue σ n r x o t = if t = n then icv σ r x.toNatClampNeg x o else σ o t := by
  unfold w_issue
  rw [pr_upv (by omega), pr_upv (by omega), pr_upv (by omega)]
  by_cases q : t = n
  · subst q
    rw [if_pos rfl]
    rcases (by omega : o = 10 ∨ o = 11 ∨ o = 12 ∨ o = 13 ∨ o = 14 ∨ o = 15 ∨ o = 16 ∨ o = 17) with rfl | rfl | rfl | rfl | rfl | rfl | rfl | rfl
    · rw [pr_upv (by decide), pr_upv (by decide), pr_upv (by decide), pr_upv (by decide), pr_upv (by decide), pr_upv (by decide), pr_upv (by decide), pr_upe]; rfl
    · rw [pr_upv (by decide), pr_upv (by decide), pr_upv (by decide), pr_upv (by decide), pr_upv (by decide), pr_upv (by decide), pr_upe]; rfl
    · rw [pr_upv (by decide), pr_upv (by decide), pr_upv (by decide), pr_upv (by decide), pr_upv (by decide), pr_upe]; rfl
    · rw [pr_upv (by decide), pr_upv (by decide), pr_upv (by decide), pr_upv (by decide), pr_upe]; rfl
    · rw [pr_upv (by decide), pr_upv (by decide), pr_upv (by decide), pr_upe]; rfl
    · rw [pr_upv (by decide), pr_upv (by decide), pr_upe]; rfl
    · rw [pr_upv (by decide), pr_upe]; rfl
    · rw [pr_upe]; rfl
  · have u : ∀ (ρ : pr_I) (o2 : Nat) (v : Int32), pr_up ρ o2 n v o t = ρ o t := fun ρ o2 v => if_neg (fun z => q z.2)
    rw [if_neg q, u, u, u, u, u, u, u, u]
theorem J.issue (h : J σ) (W : Wd σ μ) {r p : Nat} (hr : r < rqn σ) (h5 : tkn σ < 500) (hs : σ 23 r = 0) (hd : σ 25 r = σ 0 7) (hp : σ 33 r = nI p) (hpl : p < pln σ r) (hav : ¬ lk_ax_r σ (σ (35 + r) p) < σ 21 r) : J (pr_up (pr_up (pr_up (w_issue σ (tkn σ) r (σ (35 + r) p)) (76 + r) p (nI (tkn σ))) 33 r (σ 33 r + 1)) 25 r (σ 0 7 + σ 6 (σ (35 + r) p).toNatClampNeg)) := by
  have h4 := wI_nr4 W.cr.w
  have h24 := wI_nl24 W.cr.w
  obtain ⟨j1, j2, j3, ⟨⟨j4, j5⟩, j6, j7⟩, j8, j9⟩ := h.2.1 r hr
  have hl12 : pln σ r < 12 := vp_in_lt (W.cr.w 32 r 12 rfl)
  obtain ⟨hx, _⟩ := j2.1 p hpl
  obtain ⟨k0, hx0⟩ : ∃ k0, (σ (35 + r) p).toNatClampNeg = k0 := ⟨_, rfl⟩
  have hxl : k0 < lkn σ := by rw [← hx0]; exact vp_in_lt hx
  have ex : σ (35 + r) p = nI k0 := by rw [← hx0]; exact vp_nI hx (by omega)
  rw [hx0]
  rw [ex] at hx hav ⊢
  obtain ⟨l1, l2, l3, ⟨l4, l5⟩, ⟨l6, l7⟩, l8, l9⟩ := W.lk k0 hxl
  obtain ⟨pe, p0, p5⟩ := pu_eq h W.cr hxl
  obtain ⟨⟨s1, s2⟩, _⟩ := W.se
  obtain ⟨t0, t1⟩ := W.ti
  obtain ⟨d1, d2, d3⟩ := j3.2.1 hs
  have e32 : (σ 32 r).toNatClampNeg = pln σ r := rfl
  rw [hp, nI_clamp (by omega), e32, hd] at d3
  have m0 : 0 ≤ (σ 5 k0).toInt * (σ 21 r).toInt := Int.mul_nonneg l4 (by omega)
  have m1 : (σ 5 k0).toInt * (σ 21 r).toInt ≤ 1000 * 1000 := Int.mul_le_mul l5 j5 (by omega) (by decide)
  have em : (σ 5 k0 * σ 21 r).toInt = (σ 5 k0).toInt * (σ 21 r).toInt := i_mul (by omega) (by omega)
  have ea : (σ 4 k0 - σ 7 k0).toInt = (σ 4 k0).toInt - (σ 7 k0).toInt := i_sub (by omega) (by omega)
  have av : Pu σ k0 (tkn σ) + (σ 21 r).toInt ≤ (σ 4 k0).toInt := by
    unfold lk_ax_r at hav
    rw [nI_clamp (by omega), lt_i, ea] at hav
    omega
  have eh : (σ 0 7 + σ 119 0).toInt = (σ 0 7).toInt + (σ 119 0).toInt := i_add (by omega) (by omega)
  have ed : (σ 0 7 + σ 6 k0).toInt = (σ 0 7).toInt + (σ 6 k0).toInt := i_add (by omega) (by omega)
  have T := iss_c (σ := σ) (n := tkn σ) (r := r) (x := nI k0)
  have e9 : w_issue σ (tkn σ) r (nI k0) 9 8 = nI (tkn σ + 1) := by
    unfold w_issue
    rw [pr_upv (by decide), pr_upv (by decide), pr_upe]
  have e26 : ∀ r', w_issue σ (tkn σ) r (nI k0) 26 r' = if r' = r then σ 26 r + σ 5 k0 * σ 21 r else σ 26 r' := fun r' => by
    unfold w_issue
    rw [nI_clamp (by omega)]
    by_cases q : r' = r
    · rw [if_pos q, q, pr_upe]
    · rw [if_neg q, pr_upk q, pr_upv (by decide), pr_upv (by decide), pr_upv (by decide), pr_upv (by decide), pr_upv (by decide), pr_upv (by decide), pr_upv (by decide), pr_upv (by decide), pr_upv (by decide), pr_upv (by decide)]
  have f : ∀ o, (o < 7 ∨ o = 8 ∨ (17 < o ∧ o < 26) ∨ 26 < o) → w_issue σ (tkn σ) r (nI k0) o = σ o := fun o ho => fr_w_issue (by simp only [List.mem_cons, List.not_mem_nil, or_false, forall_eq_or_imp, forall_eq]; omega)
  generalize w_issue σ (tkn σ) r (nI k0) = τ at *
  generalize hS : pr_up (pr_up (pr_up τ (76 + r) p (nI (tkn σ))) 33 r (σ 33 r + 1)) 25 r (σ 0 7 + σ 6 k0) = S at *
  have kS : ∀ o, o ≠ 25 → o ≠ 33 → o ≠ 76 + r → S o = τ o := fun o a b c => by rw [← hS, pr_up_ne a, pr_up_ne b, pr_up_ne c]
  have k : ∀ o, o ≠ 25 → o ≠ 33 → o ≠ 76 + r → (o < 7 ∨ o = 8 ∨ (17 < o ∧ o < 26) ∨ 26 < o) → S o = σ o := fun o a b c d => (kS o a b c).trans (f o d)
  have u : ∀ o r', r' ≠ r → o ≠ 76 + r → S o r' = τ o r' := fun o r' hr' ho => by
    have v : ∀ (ρ : pr_I) (o2 : Nat) (v : Int32), pr_up ρ o2 r v o r' = ρ o r' := fun ρ o2 v => if_neg (fun z => hr' z.2)
    rw [← hS, v, v, pr_up_ne ho]
  have s25 : S 25 r = σ 0 7 + σ 6 k0 := by rw [← hS, pr_upe]
  have s33 : S 33 r = nI (p + 1) := by rw [← hS, pr_upv (by decide), pr_upe, hp]; exact nI_add p 1
  have tS : ∀ o t, 9 < o → o < 18 → S o t = τ o t := fun o t a b => by rw [kS o (by omega) (by omega) (by omega)]
  have nS : tkn S = tkn σ + 1 := by
    show (S 9 8).toNatClampNeg = _
    rw [kS 9 (by decide) (by decide) (by omega), e9, nI_clamp (by omega)]
  have rS : rqn S = rqn σ := rqn_c (k 18 (by decide) (by decide) (by omega) (by omega))
  have lS : lkn S = lkn σ := by unfold lkn; rw [k 1 (by decide) (by decide) (by omega) (by omega)]
  have told : ∀ o t, t ≠ tkn σ → 9 < o → o < 18 → S o t = σ o t := fun o t a b c => by rw [tS o t b c, T o t ⟨b, c⟩, if_neg a]
  have tnew : ∀ o, 9 < o → o < 18 → S o (tkn σ) = icv σ r k0 (nI k0) o := fun o b c => by
    rw [tS o _ b c, T o _ ⟨b, c⟩, if_pos rfl, nI_clamp (by omega)]
  have n10 : S 10 (tkn σ) = nI r := tnew 10 (by decide) (by decide)
  have n11 : S 11 (tkn σ) = nI k0 := tnew 11 (by decide) (by decide)
  have n12 : S 12 (tkn σ) = σ 21 r := tnew 12 (by decide) (by decide)
  have n14 : S 14 (tkn σ) = σ 0 7 + σ 119 0 := tnew 14 (by decide) (by decide)
  have n15 : S 15 (tkn σ) = 0 := tnew 15 (by decide) (by decide)
  have n16 : S 16 (tkn σ) = σ 5 k0 * σ 21 r := tnew 16 (by decide) (by decide)
  have n17 : S 17 (tkn σ) = 0 := tnew 17 (by decide) (by decide)
  have kpo : ∀ t, t ≠ tkn σ → tk_kp S t = tk_kp σ t := fun t a => by unfold tk_kp; rw [told 15 t a (by decide) (by decide)]
  have kpn : tk_kp S (tkn σ) = 1 := by unfold tk_kp; rw [n15, if_pos rfl]
  refine ⟨fun t ht => ?_, fun r' hr' => ?_, fun l hl => ?_⟩
  · rw [nS] at ht
    by_cases q : t = tkn σ
    · subst q
      unfold Jt
      rw [rS, lS, kpn, n10, n11, n12, n14, n15, n16, n17, k 21 (by decide) (by decide) (by omega) (by omega)]
      rw [em, eh, nI_clamp (by omega)]
      have z0 : (0 : Int32).toInt = 0 := rfl
      rw [z0]
      exact ⟨nI_vin hr (by omega), nI_vin hxl (by omega), ⟨m0, by omega⟩, ⟨Int.le_refl _, m0⟩, rfl, fun _ => rfl, fun _ => by omega, nI_vin (k := 0) (by decide) (by decide)⟩
    · obtain ⟨b1, b2, b3, b4, b5, b6, b7⟩ := h.1 t (by omega)
      unfold Jt
      rw [rS, lS, kpo t q, told 10 t q (by decide) (by decide), told 11 t q (by decide) (by decide), told 12 t q (by decide) (by decide), told 14 t q (by decide) (by decide), told 15 t q (by decide) (by decide), told 16 t q (by decide) (by decide), told 17 t q (by decide) (by decide), k 21 (by decide) (by decide) (by omega) (by omega)]
      exact ⟨b1, b2, b3, b4, b5, b6, b7⟩
  · rw [rS] at hr'
    obtain ⟨a1, a2, a3, a4, a5, a6⟩ := h.2.1 r' hr'
    have sum : ∀ c, 9 < c → c < 18 → S32 S r' c (tkn σ) = S32 σ r' c (tkn σ) := fun c b1 b2 => S32_l (tkn σ) (fun t ht => ⟨told 10 t (by omega) (by decide) (by decide), told c t (by omega) b1 b2⟩)
    have pS : ∀ q, S (35 + q) = σ (35 + q) ∨ 40 ≤ q := fun q => by
      by_cases z : 35 + q = 76 + r
      · exact Or.inr (by omega)
      · exact Or.inl (k _ (by omega) (by omega) z (by omega))
    have js : Js S r' := by
      unfold Js
      rw [k 21 (by decide) (by decide) (by omega) (by omega), k 22 (by decide) (by decide) (by omega) (by omega)]
      exact a4
    have jp : Jp S r' := by
      refine a2.cong lS (fun o ho => ?_) ((pS r').resolve_right (by omega)) (by rw [k 32 (by decide) (by decide) (by omega) (by omega)]) (fun z => ?_)
      · simp only [List.mem_cons, List.not_mem_nil, or_false] at ho
        exact k o (by omega) (by omega) (by omega) (by omega)
      · rw [k 23 (by decide) (by decide) (by omega) (by omega)] at z
        exact ⟨z, by rw [k 28 (by decide) (by decide) (by omega) (by omega)]⟩
    by_cases q : r' = r
    · subst q
      refine ⟨fun t ht e z => Or.inl (by rw [k 23 (by decide) (by decide) (by omega) (by omega)]; exact hs), jp, ?_, js, ?_, ?_⟩
      · unfold Jd
        rw [k 23 (by decide) (by decide) (by omega) (by omega), k 24 (by decide) (by decide) (by omega) (by omega), k 119 (by decide) (by decide) (by omega) (by omega), k 22 (by decide) (by decide) (by omega) (by omega), k 32 (by decide) (by decide) (by omega) (by omega), s25, s33, hs, ed, nI_clamp (by omega), e32]
        exact ⟨fun z => absurd z (by decide), fun _ => ⟨d1, d2, by omega⟩, fun z => absurd z (by decide), fun z => absurd z (by decide)⟩
      · rw [nS, S32, sum 16 (by decide) (by decide), n10, n16]
        rw [if_pos rfl, ← a5, kS 26 (by decide) (by decide) (by omega), e26, if_pos rfl]
      · rw [nS, S32, sum 17 (by decide) (by decide), n10, n17]
        rw [if_pos rfl, ← a6, k 27 (by decide) (by decide) (by omega) (by omega), Int32.add_zero]
    · have nq : ¬ (nI r = nI r') := fun z => q ((nI_eq (by omega) (by omega)).mp z).symm
      refine ⟨fun t ht e z => ?_, jp, a3.cong (by rw [k 119 (by decide) (by decide) (by omega) (by omega)]) (fun o ho => ?_), js, ?_, ?_⟩
      · rw [nS] at ht
        by_cases w : t = tkn σ
        · subst w
          rw [n10] at e
          exact absurd e nq
        · rw [told 10 t w (by decide) (by decide)] at e
          rw [kpo t w] at z
          rw [k 23 (by decide) (by decide) (by omega) (by omega)]
          exact a1 t (by omega) e z
      · simp only [List.mem_cons, List.not_mem_nil, or_false] at ho
        rw [u o r' q (by omega), f o (by omega)]
      · rw [nS, S32, sum 16 (by decide) (by decide), n10]
        rw [if_neg nq, ← a5, kS 26 (by decide) (by decide) (by omega), e26, if_neg q, Int32.add_zero]
      · rw [nS, S32, sum 17 (by decide) (by decide), n10]
        rw [if_neg nq, ← a6, k 27 (by decide) (by decide) (by omega) (by omega), Int32.add_zero]
  · rw [lS] at hl
    have hb := h.2.2 l hl
    rw [nS, Pu, Pu_l (tkn σ) (fun t ht => ⟨told 11 t (by omega) (by decide) (by decide), told 12 t (by omega) (by decide) (by decide), kpo t (by omega)⟩), n11, n12, kpn, k 4 (by decide) (by decide) (by omega) (by omega)]
    rw [if_neg (show ¬ (1 : Int32) = 0 by decide)]
    by_cases q : k0 = l
    · subst q
      rw [if_pos rfl]; exact av
    · rw [if_neg (fun z => q ((nI_eq (by omega) (by omega)).mp z))]
      omega
end JFB
