theorem Tx.cong {σ σ' : pr_I} (h : Tx σ) (k : ∀ o ∈ ([0, 9, 12, 18, 22, 23, 30] : List Nat), σ' o = σ o) : Tx σ' := by
  have a := tkn_c (k 9 (by decide))
  have b := rqn_c (k 18 (by decide))
  refine ⟨fun t ht => ?_, fun r hr z => ?_⟩
  · rw [a] at ht; rw [k 12 (by decide)]; exact h.1 t ht
  · rw [b] at hr; rw [k 23 (by decide)] at z; rw [k 30 (by decide), k 0 (by decide), k 22 (by decide)]; exact h.2 r hr z
theorem Tx.time {σ : pr_I} {T : Int32} (h : Tx σ) (hT : (σ 0 7).toInt ≤ T.toInt) : Tx (pr_up σ 0 7 T) := by
  refine ⟨fun t ht => ?_, fun r hr z => ?_⟩
  · rw [pr_upv (by decide)]; exact h.1 t ht
  · rw [pr_upv (by decide)] at z
    rw [pr_upe, pr_upv (by decide), pr_upv (by decide)]
    have := h.2 r hr z
    omega
theorem Tx.pn {σ μ μ' : pr_I} {T lat : Int32} (h : Wd σ μ) (tx : Tx σ) (h0 : 0 ≤ T.toInt) (h1 : T.toInt ≤ 1100000) (eT : w_nt σ lat = T) (hm : pr_up μ' 1 0 (μ' 1 0 + 1) = pr_up μ 1 0 T) (hT : (σ 0 7).toInt ≤ T.toInt) : Tx (w_pn σ lat) := by
  have h4 := wI_nr4 h.cr.w
  have EV := h.ev h0 h1 eT hm
  have base : w_pn_it34 σ lat 0 = w_end_it2 (w_exp_it2 (pr_up σ 0 7 T) (tkn σ) (tkn σ)) (tkn σ) (rqn σ) (rqn σ) := by
    rw [← eT]; rfl
  have f18 : ∀ k, k ≤ 40 → (w_pn_it34 σ lat k) 18 = σ 18 := fun k hk => by
    rw [fr_w_pn_it34 (by decide) (by omega) hk, fr_w_end (by decide), fr_w_exp (by decide), pr_up_ne (by decide)]
  have fE : ∀ o, o ∈ ([0, 9, 12, 18, 22, 23, 30] : List Nat) → w_exp_it2 (pr_up σ 0 7 T) (tkn σ) (tkn σ) o = pr_up σ 0 7 T o := fun o ho => fr_w_exp_it2 (nin (A := [0, 9, 12, 18, 22, 23, 30]) (by decide) ho)
  have fN : ∀ o, o ∈ ([0, 9, 12, 18, 22, 30] : List Nat) → (w_pn_it34 σ lat 0) o = pr_up σ 0 7 T o := fun o ho => by
    rw [base, fr_w_end_it2 (nin (A := [0, 9, 12, 18, 22, 30]) (by decide) ho), fE o (by simp only [List.mem_cons, List.not_mem_nil, or_false] at ho ⊢; omega)]
  have T0 := tx.time hT
  have B : Tx (w_pn_it34 σ lat 0) := by
    refine ⟨fun t ht => ?_, fun r hr z => ?_⟩
    · rw [tkn_c (fN 9 (by decide))] at ht
      rw [fN 12 (by decide)]; exact T0.1 t ht
    · rw [rqn_c (fN 18 (by decide))] at hr
      rw [base] at z
      have x := ((end_c (σ := w_exp_it2 (pr_up σ 0 7 T) (tkn σ) (tkn σ)) (n := tkn σ) (nr := rqn σ) (rqn σ)).2.1 r z).1
      rw [fE 23 (by decide)] at x
      rw [fN 30 (by decide), fN 0 (by decide), fN 22 (by decide)]
      exact T0.2 r hr x
  have L : ∀ k, k ≤ rqn σ → Tx (w_pn_it34 σ lat k) := by
    intro k
    induction k with
    | zero => intro _; exact B
    | succ k ih =>
      intro hk
      have rk : k < rqn (w_pn_it34 σ lat k) := by rw [rqn_c (f18 k (by omega))]; exact hk
      rw [pn_s]
      exact (ih (by omega)).op (Opr.tr (EV k (by omega)).1 rk) (Opx.tr (EV k (by omega)).1 rk)
  exact L (rqn σ) (Nat.le_refl _)
/-- one event of the class: all that is kept, and the reference's tick -/
theorem WX1 {σ μ : pr_I} {lat : Int32} (h : Wd σ μ) (tm : Tm σ) (tx : Tx σ) (hl : (σ 0 7).toInt < lat.toInt) (hlat : lat.toInt ≤ 1100000) : ∃ μ', Wd (w_pn σ lat) μ' ∧ Tm (w_pn σ lat) ∧ Tx (w_pn σ lat) ∧ (σ 0 7).toInt < ((w_pn σ lat) 0 7).toInt ∧ ((w_pn σ lat) 0 7).toInt ≤ lat.toInt := by
  have t0 := h.ti.1
  obtain ⟨_, P⟩ := nt_p h tm hl
  rcases P with ⟨p1, p2, p3, p4, p5⟩ | ⟨p1, p2, p3, p4, p5⟩
  · rw [pn_idle (by omega) p2 p3 p4 p5]
    exact ⟨_, h.time (by omega) hlat, tm.time p3 p4 p5, tx.time (by omega), by rw [pr_upe]; exact hl, by rw [pr_upe]; exact Int.le_refl _⟩
  · have hm : pr_up (pr_up μ 1 0 (m_ne_r μ - 1)) 1 0 ((pr_up μ 1 0 (m_ne_r μ - 1)) 1 0 + 1) = pr_up μ 1 0 (m_ne_r μ) := by
      rw [pr_upe, pr_up_two, Int32.sub_add_cancel]
    have M := Tm.pn h tm.1 p5 (by omega) (by omega) p4 hm
    exact ⟨_, (h.pn (T := m_ne_r μ) (by omega) (by omega) p4 hm).1, M.1, Tx.pn h tx (by omega) (by omega) p4 hm (by omega), by rw [M.2.1]; exact p2, by rw [M.2.1]; exact p3⟩
theorem Tx.pass {lat : Int32} (hlat : lat.toInt ≤ 1100000) : ∀ (K : Nat) (σ μ : pr_I), Wd σ μ → Tm σ → Tx σ → Tx (w_pt_it2 σ lat K)
  | 0, σ, _, _, _, tx => tx
  | K + 1, σ, μ, h, tm, tx => by
    by_cases c : lat ≤ σ 0 7
    · rw [pt_stay c]; exact tx
    · rw [pt_shift c]
      have c' : (σ 0 7).toInt < lat.toInt := by rw [le_i] at c; omega
      obtain ⟨μ', a, b, d, _, _⟩ := WX1 h tm tx c' hlat
      exact Tx.pass hlat K _ μ' a b d
theorem Tx.mk {σ μ : pr_I} {s t u q : Int32} (h : Wd σ μ) (tx : Tx σ) (hr : rqn σ < 40) (hs : vp_in s (ndn σ)) (ht : vp_in t (ndn σ)) (hne : s ≠ t) (hu : 1 ≤ u.toInt ∧ u.toInt ≤ 1000) (hq : 1 ≤ q.toInt ∧ q.toInt ≤ 10000) : Tx (w_mk σ s t u q) := by
  obtain ⟨A, nr, _⟩ := h.ask hr hs ht hne hu hq
  have k : ∀ o, o < 18 ∨ 33 < o → rq_add σ (rqn σ) s t u q (σ 0 7) o = σ o := fun o ho => fr_rq_add (by simp only [List.mem_cons, List.not_mem_nil, or_false, forall_eq_or_imp, forall_eq]; omega)
  have ro : ∀ o r, 18 < o → r ≠ rqn σ → rq_add σ (rqn σ) s t u q (σ 0 7) o r = σ o r := fun o r a b => rq_out (by omega) b
  have c40 : nI (rqn σ) < nI 40 := (nI_ltI (by omega) (by decide)).mpr hr
  have B : Tx (rq_add σ (rqn σ) s t u q (σ 0 7)) := by
    refine ⟨fun i hi => ?_, fun r hr' z => ?_⟩
    · rw [tkn_c (k 9 (by omega))] at hi
      rw [k 12 (by omega)]; exact tx.1 i hi
    · rw [nr] at hr'
      by_cases e : r = rqn σ
      · rw [e, show rq_add σ (rqn σ) s t u q (σ 0 7) 23 (rqn σ) = 7 from rq_in (c := 4) (by decide)] at z
        exact absurd z (by decide)
      · rw [ro 23 r (by decide) e] at z
        rw [ro 30 r (by decide) e, ro 22 r (by decide) e, k 0 (by omega)]
        exact tx.2 r (by omega) z
  unfold w_mk
  rw [if_pos c40]
  exact B.op (Opr.tr A (r := rqn σ) (by omega)) (Opx.tr A (r := rqn σ) (by omega))
theorem Opx.br {σ : pr_I} {n r : Nat} : Opx σ (w_br σ n r) r := by
  have f : ∀ o, o ≠ 7 → o ≠ 15 → o ≠ 17 → o ≠ 27 → w_ra σ n (nI r) (σ 30 r - σ 0 7) (σ 22 r) 100 o = σ o := fun o a b c d => fr_w_ra (by simp only [List.mem_cons, List.not_mem_nil, or_false, forall_eq_or_imp, forall_eq]; omega)
  have k : ∀ o, o ≠ 30 → o ≠ 23 → o ≠ 25 → o ≠ 7 → o ≠ 15 → o ≠ 17 → o ≠ 27 → w_br σ n r o = σ o := fun o a b c d e g i => by
    unfold w_br; rw [pr_up_ne a, settle_c b c, f o d e g i]
  refine ⟨k 0 (by decide) (by decide) (by decide) (by decide) (by decide) (by decide) (by decide), k 22 (by decide) (by decide) (by decide) (by decide) (by decide) (by decide) (by decide), fun t ht => Or.inl ⟨?_, ?_⟩, fun z => ?_⟩
  · rw [tkn_c (k 9 (by decide) (by decide) (by decide) (by decide) (by decide) (by decide) (by decide))] at ht; exact ht
  · rw [k 12 (by decide) (by decide) (by decide) (by decide) (by decide) (by decide) (by decide)]
  · unfold w_br w_settle at z
    rw [pr_upv (by decide), pr_upv (by decide), pr_upe] at z; exact absurd z (by decide)
theorem Tx.close {σ μ : pr_I} (h : Wd σ μ) (tm : Tm σ) (tx : Tx σ) {n nr lk : Nat} (hn : n = tkn σ) (hl : lk < lkn σ) : ∀ k, k ≤ rqn σ → Tx (w_close_it21 σ n nr lk k).1
  | 0, _ => tx.cong (fun o ho => pr_up_ne (by simp only [List.mem_cons, List.not_mem_nil, or_false] at ho; omega))
  | k + 1, hk => by
    have ih := Tx.close h tm tx (nr := nr) hn hl k (by omega)
    obtain ⟨i1, i2, i3⟩ := close_loop h tm (nr := nr) hn hl k (by omega)
    have f : ∀ o, o ∈ ([0, 9, 18, 22] : List Nat) → (w_close_it21 σ n nr lk k).1 o = σ o := fun o ho => by
      rw [fr_w_close_it21 (nin (A := [0, 9, 18, 22]) (by decide) ho), pr_up_ne (by simp only [List.mem_cons, List.not_mem_nil, or_false] at ho; omega)]
    have e0 := f 0 (by decide)
    have e22 := f 22 (by decide)
    rw [cl_s]
    split
    · exact ih
    · split
      · rw [← e0, ← e22]
        exact ih.op (Opr.br (n := n) (r := k)) (Opx.br (n := n) (r := k))
      · exact ih.op (Opr.fail i1) Opx.fail
