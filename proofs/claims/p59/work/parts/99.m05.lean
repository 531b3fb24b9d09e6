/-! ONE REQUEST'S MOVES: what is kept stays -/
theorem bit_not {x : Int32} {k : Nat} (hk : k < 32) : bit (x ^^^ (-1)) k = !(bit x k) := by
  unfold bit
  rw [Int32.toBitVec_xor, BitVec.getLsbD_xor]
  have : (-1 : Int32).toBitVec.getLsbD k = true := by
    show (BitVec.allOnes 32).getLsbD k = true
    rw [BitVec.getLsbD_allOnes]; exact decide_eq_true hk
  rw [this]
  cases x.toBitVec.getLsbD k <;> rfl
section JMV
variable {σ μ : pr_I}
theorem J.pn (h : J σ) {r : Nat} (hr : r < rqn σ) : Jr σ r := h.2.1 r hr
theorem pu_eq (h : J σ) (C : Cr σ μ) {l : Nat} (hl : l < lkn σ) : (σ 7 l).toInt = Pu σ l (tkn σ) ∧ 0 ≤ Pu σ l (tkn σ) ∧ Pu σ l (tkn σ) ≤ 500000 := by
  have h5 := wI_n5 C.w
  have L : ∀ j, j ≤ tkn σ → (m_prom_it4 μ (tkn σ) (nI l) j).toInt = Pu σ l j ∧ 0 ≤ Pu σ l j ∧ Pu σ l j ≤ 1000 * (j : Int) := by
    intro j
    induction j with
    | zero => intro _; exact ⟨rfl, Int.le_refl _, Int.le_refl _⟩
    | succ j ih =>
      intro hj
      obtain ⟨i1, i2, i3⟩ := ih (by omega)
      have ht : j < tkn σ := by omega
      have e1 : σ 11 j = μ 1 (1384 + 8 * j + 1) := C.tick ht (c := 1) (by decide)
      have e2 : σ 12 j = μ 1 (1384 + 8 * j + 2) := C.tick ht (c := 2) (by decide)
      have ek := C.kept ht
      obtain ⟨u0, u1⟩ := h.un ht
      have s : m_prom_it4 μ (tkn σ) (nI l) (j + 1) = m_prom_it4 μ (tkn σ) (nI l) j + (if μ 1 (1384 + 8 * j + 1) = nI l then (if m_kept_r μ j = 0 then (0 : Int32) else μ 1 (1384 + 8 * j + 2)) else (0 : Int32)) := rfl
      rw [s, ← e1, ← e2, ← ek, Pu]
      have z0 : (0 : Int32).toInt = 0 := rfl
      by_cases c : σ 11 j = nI l
      · rw [if_pos c, if_pos c]
        by_cases c2 : tk_kp σ j = 0
        · rw [if_pos c2, if_pos c2, Int32.add_zero]; exact ⟨by omega, by omega, by omega⟩
        · rw [if_neg c2, if_neg c2, i_add (by omega) (by omega)]; exact ⟨by omega, by omega, by omega⟩
      · rw [if_neg c, if_neg c, Int32.add_zero]; exact ⟨by omega, by omega, by omega⟩
  obtain ⟨a, b, c⟩ := L (tkn σ) (Nat.le_refl _)
  rw [C.pr hl]
  exact ⟨a, b, by omega⟩
/-- an attempt begins -/
theorem J.beg (h : J σ) (W : Wd σ μ) {r : Nat} (hr : r < rqn σ) (hs : σ 23 r = 7) (hd : σ 25 r = σ 0 7) : J (w_beg σ r) := by
  have h4 := wI_nr4 W.cr.w
  have h24 := wI_nl24 W.cr.w
  have B := W.bl
  obtain ⟨j1, j2, j3, j4, j5⟩ := h.2.1 r hr
  have hu : HU (σ 1 7 &&& (σ 28 r ^^^ (-1))) (m_up_r μ (lkn σ) &&& (σ 28 r ^^^ (-1))) (lkn σ) := HU.up (fun k hk => W.up k hk) h24
  have rq := W.rq r hr
  have fF : ∀ o, o < 116 ∨ 118 < o → pt_find σ (lkn σ) (σ 19 r) (σ 20 r) (σ 1 7 &&& (σ 28 r ^^^ (-1))) o = σ o := fun o ho => fr_pt_find (by simp only [List.mem_cons, List.not_mem_nil, or_false, forall_eq_or_imp, forall_eq]; omega)
  have nk : ∀ t, t < tkn σ → σ 10 t = nI r → tk_kp σ t = 0 := fun t ht e => Classical.byContradiction fun z => by
    rcases j1 t ht e z with q | q | q <;> (rw [hs] at q; exact absurd q (by decide))
  unfold w_beg pt_len
  rcases find4 B hu rq.1 rq.2.1 W.cr.ln W.cr.nn with ⟨_, f1, _⟩ | ⟨n, ls, np, n11, _, f1, _, f3, f4, f5, _⟩
  · rw [f1, if_pos (show nI (nI 0).toNatClampNeg = 0 from rfl)]
    generalize pt_find σ (lkn σ) (σ 19 r) (σ 20 r) (σ 1 7 &&& (σ 28 r ^^^ (-1))) = F at *
    unfold w_settle
    have k : ∀ o, o ≠ 23 → o ≠ 25 → (o < 116 ∨ 118 < o) → pr_up (pr_up F 23 r 4) 25 r (-1) o = σ o := fun o a b c => by rw [pr_up_ne b, pr_up_ne a, fF o c]
    have s23 : pr_up (pr_up F 23 r 4) 25 r (-1) 23 r = 4 := by rw [pr_upv (by decide), pr_upe]
    refine h.req (r := r) ⟨tkn_c (k 9 (by decide) (by decide) (by decide)), rqn_c (k 18 (by decide) (by decide) (by decide)), by unfold lkn; rw [k 1 (by decide) (by decide) (by decide)]⟩ (fun o ho => ?_) (by rw [k 119 (by decide) (by decide) (by decide)]) (fun r' hr' => ⟨fun o ho => ?_, fun _ => k _ (by omega) (by omega) (by omega)⟩) h4 (fun _ => ⟨fun t ht e z => ?_, ?_, ?_⟩)
    · simp only [List.mem_cons, List.not_mem_nil, or_false] at ho
      exact k o (by omega) (by omega) (by omega)
    · simp only [List.mem_cons, List.not_mem_nil, or_false] at ho
      have u : ∀ (ρ : pr_I) (o2 : Nat) (v : Int32), pr_up ρ o2 r v o r' = ρ o r' := fun ρ o2 v => if_neg (fun z => hr' z.2)
      rw [u, u, fF o (by omega)]
    · rw [tkn_c (k 9 (by decide) (by decide) (by decide))] at ht
      rw [k 10 (by decide) (by decide) (by decide)] at e
      rw [kp_c (k 15 (by decide) (by decide) (by decide))] at z
      exact absurd (nk t ht e) z
    · refine j2.cong (by unfold lkn; rw [k 1 (by decide) (by decide) (by decide)]) (fun o ho => ?_) (k _ (by omega) (by omega) (by omega)) (by rw [k 32 (by decide) (by decide) (by decide)]) (fun z => ?_)
      · simp only [List.mem_cons, List.not_mem_nil, or_false] at ho
        exact k o (by omega) (by omega) (by omega)
      · rw [s23] at z; exact absurd (by decide) z
    · unfold Jd
      rw [s23]
      exact ⟨fun z => absurd z (by decide), fun z => absurd z (by decide), fun z => absurd z (by decide), fun z => absurd z (by decide)⟩
  · have n0 : n ≠ 0 := fun z => rq.2.2.1 (f5.mp z)
    have cn0 : ¬ nI n = 0 := fun z => n0 ((nI_eq (b := 0) (by omega) (by decide)).mp z)
    rw [f1, nI_clamp (by omega), if_neg cn0]
    generalize hF : pt_find σ (lkn σ) (σ 19 r) (σ 20 r) (σ 1 7 &&& (σ 28 r ^^^ (-1))) = F at *
    generalize hS : pr_up (pr_up (pr_up (pr_row F (35 + r) (cp_row (F 117) (σ (35 + r)) n)) 32 r (nI n)) 33 r 0) 23 r 0 = S at *
    have k : ∀ o, o ≠ 23 → o ≠ 32 → o ≠ 33 → o ≠ 35 + r → o < 116 ∨ 118 < o → S o = σ o := fun o a b c d e => by
      rw [← hS, pr_up_ne (by omega), pr_up_ne c, pr_up_ne b, pr_row_ne d, fF o e]
    have s23 : S 23 r = 0 := by rw [← hS, pr_upe]
    have s32 : S 32 r = nI n := by rw [← hS, pr_upv (by decide), pr_upv (by decide), pr_upe]
    have s33 : S 33 r = 0 := by rw [← hS, pr_upv (by decide), pr_upe]
    have sp : ∀ p, p < n → S (35 + r) p = nI (ls p) := fun p hp => by
      rw [← hS, pr_up_ne (by omega), pr_up_ne (by omega), pr_up_ne (by omega), pr_row_eq, ← (f3 p hp).1]
      exact if_pos hp
    obtain ⟨p1, p2, p3⟩ := f4
    have ln : lkn S = lkn σ := by unfold lkn; rw [k 1 (by decide) (by decide) (by decide) (by omega) (by decide)]
    have e19 : σ 19 r = nI (σ 19 r).toNatClampNeg := vp_nI rq.1 (by have := B.2.1; omega)
    have e20 : σ 20 r = nI (σ 20 r).toNatClampNeg := vp_nI rq.2.1 (by have := B.2.1; omega)
    have nd0 : ∀ p, p ≤ n → rnd S r p = nI (np p) := by
      intro p hp
      cases p with
      | zero => show S 19 r = _; rw [k 19 (by decide) (by decide) (by decide) (by omega) (by decide), p1]; exact e19
      | succ p =>
        obtain ⟨_, _, _, c4⟩ := p3 p (by omega)
        have lp := (f3 p (by omega)).2
        show S 3 ((S (35 + r) p).toNatClampNeg) = _
        rw [sp p (by omega), nI_clamp (by omega), k 3 (by decide) (by decide) (by decide) (by omega) (by decide), ← c4]
        exact vp_nI (B.2.2 (ls p) lp).2.1 (by have := B.2.1; omega)
    refine h.req (r := r) ⟨tkn_c (k 9 (by decide) (by decide) (by decide) (by omega) (by decide)), rqn_c (k 18 (by decide) (by decide) (by decide) (by omega) (by decide)), ln⟩ (fun o ho => ?_) (by rw [k 119 (by decide) (by decide) (by decide) (by omega) (by decide)]) (fun r' hr' => ⟨fun o ho => ?_, fun _ => k _ (by omega) (by omega) (by omega) (by omega) (by omega)⟩) h4 (fun _ => ⟨fun t ht e z => Or.inl s23, ⟨fun p hp => ?_, fun _ => ?_⟩, ?_⟩)
    · simp only [List.mem_cons, List.not_mem_nil, or_false] at ho
      exact k o (by omega) (by omega) (by omega) (by omega) (by omega)
    · simp only [List.mem_cons, List.not_mem_nil, or_false] at ho
      have u : ∀ (ρ : pr_I) (o2 : Nat) (v : Int32), pr_up ρ o2 r v o r' = ρ o r' := fun ρ o2 v => if_neg (fun z => hr' z.2)
      rw [← hS, u, u, u, pr_row_ne (by omega), fF o (by omega)]
    · have hpn : p < n := by unfold pln at hp; rw [s32, nI_clamp (by omega)] at hp; exact hp
      obtain ⟨c1, c2, c3, c4⟩ := p3 p hpn
      rw [sp p hpn, nI_clamp (by omega), ln, nd0 p (by omega), k 2 (by decide) (by decide) (by decide) (by omega) (by decide), ← c3, k 28 (by decide) (by decide) (by decide) (by omega) (by decide)]
      refine ⟨nI_vin c1 (by omega), vp_nI (B.2.2 (ls p) c1).1 (by have := B.2.1; omega), fun _ => ?_⟩
      rw [bit_and, bit_not (by omega)] at c2
      rw [bit_eq (by omega)]
      have nb : ¬ bit (σ 28 r) (ls p) = true := fun z => by
        rw [z] at c2
        cases hb : bit (σ 1 7) (ls p) <;> rw [hb] at c2 <;> exact absurd c2 (by decide)
      rw [if_neg nb]; decide
    · have e : pln S r = n := by unfold pln; rw [s32, nI_clamp (by omega)]
      rw [e, nd0 n (Nat.le_refl _), p2, k 20 (by decide) (by decide) (by decide) (by omega) (by decide)]
      exact e20.symm
    · obtain ⟨d1, d2, d3⟩ := j3.1 hs
      unfold Jd
      rw [s23, s32, s33, nI_clamp (by omega), k 24 (by decide) (by decide) (by decide) (by omega) (by decide), k 119 (by decide) (by decide) (by decide) (by omega) (by decide), k 25 (by decide) (by decide) (by decide) (by omega) (by decide), k 22 (by decide) (by decide) (by decide) (by omega) (by decide)]
      refine ⟨fun z => absurd z (by decide), fun _ => ⟨d1, d2, ?_⟩, fun z => absurd z (by decide), fun z => absurd z (by decide)⟩
      have z0 : (0 : Int32).toNatClampNeg = 0 := rfl
      rw [z0]
      omega
end JMV
