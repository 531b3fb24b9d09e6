/-! REQUESTS SETTLED AND FAILED: what is kept stays -/
section JOP
variable {σ μ : pr_I}
theorem Jt.ra {n r : Nat} {a b p : Int32} {t : Nat} (hr : r < 2 ^ 31) (ht : t < tkn σ) (hn : n = tkn σ) (e : σ 10 t = nI r) : tk_kp (w_ra_it6 σ n (nI r) a b p n).1 t = 0 := (ra_kp n t).2 (by omega) e
/-- all tickets of a request given up, and the request settled -/
theorem J.drop {σ' : pr_I} (h : J σ) {n r : Nat} {a b p s : Int32} (hn : n = tkn σ) (h4 : rqn σ ≤ 40) (hr : r < rqn σ) (hf : ∀ k, k < tkn σ → σ 10 k = nI r → 0 ≤ (w_am σ a b p k).toInt ∧ (w_am σ a b p k).toInt ≤ (σ 16 k).toInt)
    (hk : ∀ o, o ≠ 23 → o ≠ 25 → o ≠ 29 → o ≠ 30 → σ' o = (w_ra_it6 σ n (nI r) a b p n).1 o) (ho : ∀ o r', r' ≠ r → (o = 23 ∨ o = 25 ∨ o = 30) → σ' o r' = (w_ra_it6 σ n (nI r) a b p n).1 o r') (hs : σ' 23 r = s) (h3 : 3 ≤ s) (h7 : ¬ s = 7) : J σ' := by
  have hJ := h.ra (n := n) (r := nI r) (a := a) (b := b) (p := p) h4 hf n (by omega)
  obtain ⟨n1, n2, n3⟩ := ra_n (σ := σ) (n := n) (r := nI r) (a := a) (b := b) (p := p) (k := n)
  have K := fun t (ht : t < tkn σ) (e : σ 10 t = nI r) => Jt.ra (a := a) (b := b) (p := p) (n := n) (by omega) ht hn e
  have F : ∀ o, o ≠ 7 → o ≠ 15 → o ≠ 17 → o ≠ 27 → (w_ra_it6 σ n (nI r) a b p n).1 o = σ o := fun o a b c d => fr_w_ra_it6 (by simp only [List.mem_cons, List.not_mem_nil, or_false, forall_eq_or_imp, forall_eq]; omega)
  generalize (w_ra_it6 σ n (nI r) a b p n).1 = τ at *
  have m1 : tkn σ' = tkn τ := tkn_c (hk 9 (by decide) (by decide) (by decide) (by decide))
  have m2 : rqn σ' = rqn τ := rqn_c (hk 18 (by decide) (by decide) (by decide) (by decide))
  have m3 : lkn σ' = lkn τ := by unfold lkn; rw [hk 1 (by decide) (by decide) (by decide) (by decide)]
  have e3 : (3 : Int32).toInt = 3 := rfl
  have z0 : ¬ s = 0 := fun z => by rw [z, le_i, e3] at h3; exact absurd h3 (by decide)
  have z1 : ¬ s = 1 := fun z => by rw [z, le_i, e3] at h3; exact absurd h3 (by decide)
  have z2 : ¬ s = 2 := fun z => by rw [z, le_i, e3] at h3; exact absurd h3 (by decide)
  refine hJ.req (r := r) ⟨m1, m2, m3⟩ (fun o ho => ?_) (by rw [hk 119 (by decide) (by decide) (by decide) (by decide)]) (fun r' hr' => ⟨fun o ho' => ?_, fun _ => ?_⟩) (by omega) (fun _ => ⟨fun t ht e z => ?_, ?_, ?_⟩)
  · simp only [List.mem_cons, List.not_mem_nil, or_false] at ho
    exact hk o (by omega) (by omega) (by omega) (by omega)
  · by_cases q : o = 23 ∨ o = 25 ∨ o = 30
    · exact ho o r' hr' q
    · simp only [List.mem_cons, List.not_mem_nil, or_false] at ho'
      rw [hk o (by omega) (by omega) (by omega) (by omega)]
  · exact hk _ (by omega) (by omega) (by omega) (by omega)
  · rw [m1, n3] at ht
    rw [hk 10 (by decide) (by decide) (by decide) (by decide), F 10 (by decide) (by decide) (by decide) (by decide)] at e
    rw [kp_c (hk 15 (by decide) (by decide) (by decide) (by decide))] at z
    exact absurd (K t ht e) z
  · refine (hJ.2.1 r (by omega)).2.1.cong m3 (fun o ho => ?_) (hk _ (by omega) (by omega) (by omega) (by omega)) (by rw [hk 32 (by decide) (by decide) (by decide) (by decide)]) (fun z => ?_)
    · simp only [List.mem_cons, List.not_mem_nil, or_false] at ho
      exact hk o (by omega) (by omega) (by omega) (by omega)
    · rw [hs] at z; exact absurd h3 z
  · unfold Jd
    rw [hs]
    exact ⟨fun z => absurd z h7, fun z => absurd z z0, fun z => absurd z z1, fun z => absurd z z2⟩
theorem J.pc (h : J σ) {t : Nat} (ht : t < tkn σ) : 0 ≤ (σ 16 t).toInt ∧ (σ 16 t).toInt ≤ 1000000 := (h.1 t ht).2.2.1
theorem J.am1 (h : J σ) {p : Int32} (p0 : 0 ≤ p.toInt) (p1 : p.toInt ≤ 100) {t : Nat} (ht : t < tkn σ) : 0 ≤ (w_am σ 1 1 p t).toInt ∧ (w_am σ 1 1 p t).toInt ≤ (σ 16 t).toInt :=
  am_le (h.pc ht).1 (h.pc ht).2 (by decide) (Int.le_refl _) (by decide) (by decide) p0 p1
/-- what a failing attempt needs of its deadline -/
def Jf (σ : pr_I) (r : Nat) : Prop := 0 ≤ (σ 24 r).toInt ∧ (σ 24 r).toInt < (σ 119 2).toInt ∧ (σ 0 7).toInt + 100 + ((σ 119 2).toInt - (σ 24 r).toInt - 1) * 1200 + (σ 22 r).toInt ≤ 11100
theorem J.fail (h : J σ) (se : Se σ) (ti : Ti σ) {n r : Nat} {x : Int32} (hn : n = tkn σ) (h4 : rqn σ ≤ 40) (hr : r < rqn σ) (hd : Jf σ r) : J (w_fail σ n r x) := by
  have hJ := h.ra (n := n) (r := nI r) (a := 1) (b := 1) (p := 100) h4 (fun k hk _ => h.am1 (by decide) (by decide) hk) n (by omega)
  obtain ⟨n1, n2, n3⟩ := ra_n (σ := σ) (n := n) (r := nI r) (a := 1) (b := 1) (p := 100) (k := n)
  have K := fun t (ht : t < tkn σ) (e : σ 10 t = nI r) => Jt.ra (a := 1) (b := 1) (p := 100) (n := n) (by omega) ht hn e
  have F : ∀ o, o ≠ 7 → o ≠ 15 → o ≠ 17 → o ≠ 27 → (w_ra_it6 σ n (nI r) 1 1 100 n).1 o = σ o := fun o a b c d => fr_w_ra_it6 (by simp only [List.mem_cons, List.not_mem_nil, or_false, forall_eq_or_imp, forall_eq]; omega)
  have hk : ∀ o, o ≠ 8 → o ≠ 23 → o ≠ 24 → o ≠ 25 → o ≠ 28 → o ≠ 31 → w_fail σ n r x o = (w_ra_it6 σ n (nI r) 1 1 100 n).1 o := fun o a b c d e f => by
    unfold w_fail w_settle
    split
    · rw [pr_up_ne d, pr_up_ne b, pr_up_ne a, pr_up_ne f, pr_up_ne c, pr_up_ne e]; rfl
    · rw [pr_up_ne d, pr_up_ne b, pr_up_ne a, pr_up_ne f, pr_up_ne c, pr_up_ne e]; rfl
  have ho : ∀ o r', r' ≠ r → o ≠ 8 → w_fail σ n r x o r' = (w_ra_it6 σ n (nI r) 1 1 100 n).1 o r' := fun o r' q q8 => by
    have u : ∀ (ρ : pr_I) (o2 : Nat) (v : Int32), pr_up ρ o2 r v o r' = ρ o r' := fun ρ o2 v => if_neg (fun z => q z.2)
    have u8 : ∀ (ρ : pr_I) (k : Nat) (v : Int32), pr_up ρ 8 k v o r' = ρ o r' := fun ρ k v => if_neg (fun z => q8 z.1)
    unfold w_fail w_settle
    split
    · rw [u, u, u8, u, u, u]; rfl
    · rw [u, u, u8, u, u, u]; rfl
  have e24 : (w_fail σ n r x) 24 r = σ 24 r + 1 := by
    unfold w_fail w_settle
    split
    · rw [pr_upv (by decide), pr_upv (by decide), pr_upv (by decide), pr_upv (by decide), pr_upe]
    · rw [pr_upv (by decide), pr_upv (by decide), pr_upv (by decide), pr_upv (by decide), pr_upe]
  have e23 : (w_fail σ n r x) 23 r = if σ 24 r + 1 < σ 119 2 then 7 else 4 := by rw [fail_23, if_pos rfl]
  have e25 : (w_fail σ n r x) 25 r = if σ 24 r + 1 < σ 119 2 then (σ 0 7 + σ 119 1) else -1 := by rw [fail_25, if_pos rfl]
  generalize (w_ra_it6 σ n (nI r) 1 1 100 n).1 = τ at *
  generalize w_fail σ n r x = σ' at *
  have m1 : tkn σ' = tkn τ := tkn_c (hk 9 (by decide) (by decide) (by decide) (by decide) (by decide) (by decide))
  have m2 : rqn σ' = rqn τ := rqn_c (hk 18 (by decide) (by decide) (by decide) (by decide) (by decide) (by decide))
  have m3 : lkn σ' = lkn τ := by unfold lkn; rw [hk 1 (by decide) (by decide) (by decide) (by decide) (by decide) (by decide)]
  have e22 : σ' 22 r = σ 22 r := by rw [hk 22 (by decide) (by decide) (by decide) (by decide) (by decide) (by decide), F 22 (by decide) (by decide) (by decide) (by decide)]
  have e119 : σ' 119 = σ 119 := by rw [hk 119 (by decide) (by decide) (by decide) (by decide) (by decide) (by decide), F 119 (by decide) (by decide) (by decide) (by decide)]
  obtain ⟨s1, s2, s3, s4, s5⟩ := se
  obtain ⟨d1, d2, d3⟩ := hd
  have i1 : (1 : Int32).toInt = 1 := rfl
  have x24 : (σ 24 r + 1).toInt = (σ 24 r).toInt + 1 := by rw [i_add (by rw [i1]; omega) (by rw [i1]; omega), i1]
  have tt := ti.1
  have x25 : (σ 0 7 + σ 119 1).toInt = (σ 0 7).toInt + (σ 119 1).toInt := i_add (by have := ti.1; omega) (by have := ti.2; omega)
  refine hJ.req (r := r) ⟨m1, m2, m3⟩ (fun o ho2 => ?_) (by rw [hk 119 (by decide) (by decide) (by decide) (by decide) (by decide) (by decide)]) (fun r' hr' => ⟨fun o ho' => ?_, fun _ => ?_⟩) (by omega) (fun _ => ⟨fun t ht e z => ?_, ?_, ?_⟩)
  · simp only [List.mem_cons, List.not_mem_nil, or_false] at ho2
    exact hk o (by omega) (by omega) (by omega) (by omega) (by omega) (by omega)
  · simp only [List.mem_cons, List.not_mem_nil, or_false] at ho'
    exact ho o r' hr' (by omega)
  · exact hk _ (by omega) (by omega) (by omega) (by omega) (by omega) (by omega)
  · rw [m1, n3] at ht
    rw [hk 10 (by decide) (by decide) (by decide) (by decide) (by decide) (by decide), F 10 (by decide) (by decide) (by decide) (by decide)] at e
    rw [kp_c (hk 15 (by decide) (by decide) (by decide) (by decide) (by decide) (by decide))] at z
    exact absurd (K t ht e) z
  · refine (hJ.2.1 r (by omega)).2.1.cong m3 (fun o ho2 => ?_) (hk _ (by omega) (by omega) (by omega) (by omega) (by omega) (by omega)) (by rw [hk 32 (by decide) (by decide) (by decide) (by decide) (by decide) (by decide)]) (fun z => ?_)
    · simp only [List.mem_cons, List.not_mem_nil, or_false] at ho2
      exact hk o (by omega) (by omega) (by omega) (by omega) (by omega) (by omega)
    · rw [e23] at z
      split at z
      · exact absurd (by decide) z
      · exact absurd (by decide) z
  · unfold Jd
    rw [e23, e24, e25, e22, e119]
    by_cases c : σ 24 r + 1 < σ 119 2
    · rw [if_pos c, if_pos c, x24, x25]
      rw [lt_i, x24] at c
      refine ⟨fun _ => ⟨by omega, by omega, by omega⟩, fun z => absurd z (by decide), fun z => absurd z (by decide), fun z => absurd z (by decide)⟩
    · rw [if_neg c]
      exact ⟨fun z => absurd z (by decide), fun z => absurd z (by decide), fun z => absurd z (by decide), fun z => absurd z (by decide)⟩
end JOP
