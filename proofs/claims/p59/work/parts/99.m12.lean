/-! WHAT IS FORESEEN COMES: events do not depend on how far one looks -/
section PRE
variable {σ μ : pr_I}
theorem pn_t (h4 : rqn σ ≤ 40) {lat : Int32} : (w_pn σ lat) 0 7 = w_nt σ lat := by
  have f : w_pn σ lat 0 = (pr_up σ 0 7 (w_nt σ lat)) 0 := by
    unfold w_pn
    rw [fr_w_pn_it34 (by decide) (by omega) h4, fr_w_end (by decide), fr_w_exp (by decide)]
    rfl
  rw [f, pr_upe]
theorem pn_eq {a b : Int32} (h : w_nt σ a = w_nt σ b) : w_pn σ a = w_pn σ b := by
  have base : ∀ lat, w_pn_it34 σ lat 0 = w_end (w_exp (pr_up σ 0 7 (w_nt σ lat)) (tkn σ)) (tkn σ) (rqn σ) := fun _ => rfl
  have L : ∀ k, w_pn_it34 σ a k = w_pn_it34 σ b k := by
    intro k
    induction k with
    | zero => rw [base, base, h]
    | succ k ih => rw [pn_s, pn_s, ih]
  exact L _
theorem nt_of {N lat : Int32} (e : w_next_r σ (tkn σ) (rqn σ) = N) (h1 : ¬ N = -1) (h2 : N ≤ lat) : w_nt σ lat = N := by
  unfold w_nt
  rw [e, if_neg h1, if_pos h2]
/-- till a request is active: the end is where passing time arrives, and one tick before it was not yet so -/
theorem paA {L : Int32} (hL : L.toInt ≤ 1090000) {r : Nat} : ∀ (K : Nat) (σ μ : pr_I), Wd σ μ → Tm σ → Tx σ → (itF (paF L r) K σ) 23 r = 2 → (σ 0 7).toInt ≤ ((itF (paF L r) K σ) 0 7).toInt ∧ ((σ 0 7).toInt ≤ L.toInt → ((itF (paF L r) K σ) 0 7).toInt ≤ L.toInt) ∧ ∀ K', K ≤ K' → w_pt_it2 σ ((itF (paF L r) K σ) 0 7) K' = itF (paF L r) K σ
  | 0, σ, μ, h, tm, tx, e => ⟨Int.le_refl _, fun z => z, fun K' _ => pt_stay (le_i.mpr (Int.le_refl _)) K'⟩
  | K + 1, σ, μ, h, tm, tx, e => by
    have t0 := h.ti.1
    have stop : paF L r σ = σ → (σ 0 7).toInt ≤ ((itF (paF L r) (K + 1) σ) 0 7).toInt ∧ ((σ 0 7).toInt ≤ L.toInt → ((itF (paF L r) (K + 1) σ) 0 7).toInt ≤ L.toInt) ∧ ∀ K', K + 1 ≤ K' → w_pt_it2 σ ((itF (paF L r) (K + 1) σ) 0 7) K' = itF (paF L r) (K + 1) σ := fun z => by
      rw [itF_fix z]
      exact ⟨Int.le_refl _, fun z => z, fun K' _ => pt_stay (le_i.mpr (Int.le_refl _)) K'⟩
    by_cases c1 : L ≤ σ 0 7
    · exact stop (if_pos c1)
    by_cases c2 : rq_way_r σ r = 0
    · exact stop (pa_stay c2)
    have ef : paF L r σ = w_pn σ L := by unfold paF; rw [if_neg c1, if_neg c2]
    have c1' : (σ 0 7).toInt < L.toInt := by rw [le_i] at c1; omega
    rw [itF_s, ef] at e ⊢
    obtain ⟨en, P⟩ := nt_p h tm c1'
    obtain ⟨μ', a, b, d, f1, f2⟩ := WX1 h tm tx c1' (by omega)
    rcases P with ⟨p1, p2, p3, p4, p5⟩ | ⟨p1, p2, p3, p4, p5⟩
    · exfalso
      have ei := pn_idle (σ := σ) (lat := L) (by omega) p2 p3 p4 p5
      rw [ei] at e
      have fx : paF L r (pr_up σ 0 7 L) = pr_up σ 0 7 L := by
        unfold paF; rw [pr_upe, if_pos (le_i.mpr (Int.le_refl _))]
      rw [itF_fix fx, pr_upv (by decide)] at e
      have w := fun z => c2 (way_0.mpr z)
      refine w (fun z => ?_)
      rw [e] at z
      rcases z with z | z | z <;> exact absurd z (by decide)
    · have ih := paA hL K (w_pn σ L) μ' a b d e
      obtain ⟨i1, i2, i3⟩ := ih
      have e7 : (w_pn σ L) 0 7 = m_ne_r μ := (pn_t (wI_nr4 h.cr.w)).trans p4
      generalize itF (paF L r) K (w_pn σ L) = E at *
      rw [e7] at i1 i2 f1 f2
      refine ⟨by omega, fun _ => i2 p3, fun K' hK => ?_⟩
      obtain ⟨K2, rfl⟩ : ∃ K2, K' = K2 + 1 := ⟨K' - 1, by omega⟩
      have ne : w_pn σ (E 0 7) = w_pn σ L := pn_eq ((nt_of en p1 (le_i.mpr i1)).trans p4.symm)
      rw [pt_shift (fun z => by rw [le_i] at z; omega), ne]
      exact i3 K2 (by omega)
theorem paB {L : Int32} (hL : L.toInt ≤ 1090000) {r : Nat} : ∀ (K : Nat) (σ μ : pr_I), Wd σ μ → Tm σ → Tx σ → ¬ σ 23 r = 2 → (itF (paF L r) K σ) 23 r = 2 → (σ 0 7).toInt < ((itF (paF L r) K σ) 0 7).toInt ∧ ∀ K', K ≤ K' → ¬ (w_pt_it2 σ ((itF (paF L r) K σ) 0 7 - 1) K') 23 r = 2
  | 0, σ, μ, h, tm, tx, n2, e => absurd e n2
  | K + 1, σ, μ, h, tm, tx, n2, e => by
    have t0 := h.ti.1
    have i1' : (1 : Int32).toInt = 1 := rfl
    by_cases c1 : L ≤ σ 0 7
    · rw [itF_fix (show paF L r σ = σ from if_pos c1)] at e; exact absurd e n2
    by_cases c2 : rq_way_r σ r = 0
    · rw [itF_fix (pa_stay c2)] at e; exact absurd e n2
    have ef : paF L r σ = w_pn σ L := by unfold paF; rw [if_neg c1, if_neg c2]
    have c1' : (σ 0 7).toInt < L.toInt := by rw [le_i] at c1; omega
    rw [itF_s, ef] at e ⊢
    obtain ⟨en, P⟩ := nt_p h tm c1'
    obtain ⟨μ', a, b, d, f1, f2⟩ := WX1 h tm tx c1' (by omega)
    have A := paA hL K (w_pn σ L) μ' a b d e
    rcases P with ⟨p1, p2, p3, p4, p5⟩ | ⟨p1, p2, p3, p4, p5⟩
    · exfalso
      have ei := pn_idle (σ := σ) (lat := L) (by omega) p2 p3 p4 p5
      rw [ei] at e
      have fx : paF L r (pr_up σ 0 7 L) = pr_up σ 0 7 L := by
        unfold paF; rw [pr_upe, if_pos (le_i.mpr (Int.le_refl _))]
      rw [itF_fix fx, pr_upv (by decide)] at e
      exact n2 e
    · have e7 : (w_pn σ L) 0 7 = m_ne_r μ := (pn_t (wI_nr4 h.cr.w)).trans p4
      by_cases q : (w_pn σ L) 23 r = 2
      · have w : rq_way_r (w_pn σ L) r = 0 := way_0.mpr (fun z => by
          rw [q] at z
          rcases z with z | z | z <;> exact absurd z (by decide))
        rw [itF_fix (pa_stay w), e7]
        have x : (m_ne_r μ - 1).toInt = (m_ne_r μ).toInt - 1 := by rw [i_sub (by omega) (by omega), i1']
        refine ⟨p2, fun K' hK => ?_⟩
        by_cases c3 : m_ne_r μ - 1 ≤ σ 0 7
        · rw [pt_stay c3]; exact n2
        · obtain ⟨K2, rfl⟩ : ∃ K2, K' = K2 + 1 := ⟨K' - 1, by omega⟩
          rw [pt_shift c3]
          have c3' : (σ 0 7).toInt < (m_ne_r μ - 1).toInt := by rw [le_i] at c3; omega
          obtain ⟨_, P2⟩ := nt_p h tm c3'
          rcases P2 with ⟨q1, q2, q3, q4, q5⟩ | ⟨q1, q2, q3, q4, q5⟩
          · rw [pn_idle (σ := σ) (by omega) q2 q3 q4 q5, pt_stay (by rw [pr_upe]; exact le_i.mpr (Int.le_refl _)), pr_upv (by decide)]
            exact n2
          · omega
      · have B := paB hL K (w_pn σ L) μ' a b d q e
        obtain ⟨i1, i3⟩ := B
        have i2 := A.2.1
        generalize itF (paF L r) K (w_pn σ L) = E at *
        rw [e7] at i1 f1 f2 i2
        have hb := i2 p3
        have x : (E 0 7 - 1).toInt = (E 0 7).toInt - 1 := by rw [i_sub (by omega) (by omega), i1']
        refine ⟨by omega, fun K' hK => ?_⟩
        obtain ⟨K2, rfl⟩ : ∃ K2, K' = K2 + 1 := ⟨K' - 1, by omega⟩
        have ne : w_pn σ (E 0 7 - 1) = w_pn σ L := pn_eq ((nt_of en p1 (le_i.mpr (by omega))).trans p4.symm)
        rw [pt_shift (fun z => by rw [le_i] at z; omega), ne]
        exact i3 K2 (by omega)
/-- till nothing happens any more -/
theorem pqA {L : Int32} (hL : L.toInt ≤ 1090000) : ∀ (K : Nat) (σ μ : pr_I), Wd σ μ → Tm σ → Tx σ → (itF (pqF L) K (σ, w_next_r σ (tkn σ) (rqn σ))).2 = -1 → w_next_r (itF (pqF L) K (σ, w_next_r σ (tkn σ) (rqn σ))).1 (tkn (itF (pqF L) K (σ, w_next_r σ (tkn σ) (rqn σ))).1) (rqn (itF (pqF L) K (σ, w_next_r σ (tkn σ) (rqn σ))).1) = -1 ∧ (σ 0 7).toInt ≤ ((itF (pqF L) K (σ, w_next_r σ (tkn σ) (rqn σ))).1 0 7).toInt ∧ ∀ K', K ≤ K' → w_pt_it2 σ ((itF (pqF L) K (σ, w_next_r σ (tkn σ) (rqn σ))).1 0 7) K' = (itF (pqF L) K (σ, w_next_r σ (tkn σ) (rqn σ))).1
  | 0, σ, μ, h, tm, tx, e => ⟨e, Int.le_refl _, fun K' _ => pt_stay (le_i.mpr (Int.le_refl _)) K'⟩
  | K + 1, σ, μ, h, tm, tx, e => by
    have t0 := h.ti.1
    by_cases c1 : w_next_r σ (tkn σ) (rqn σ) = -1
    · rw [itF_fix (show pqF L (σ, w_next_r σ (tkn σ) (rqn σ)) = (σ, w_next_r σ (tkn σ) (rqn σ)) from if_pos c1)]
      exact ⟨c1, Int.le_refl _, fun K' _ => pt_stay (le_i.mpr (Int.le_refl _)) K'⟩
    by_cases c2 : L < w_next_r σ (tkn σ) (rqn σ)
    · rw [itF_fix (show pqF L (σ, w_next_r σ (tkn σ) (rqn σ)) = (σ, w_next_r σ (tkn σ) (rqn σ)) from (if_neg c1).trans (if_pos c2))] at e
      exact absurd e c1
    have ef : pqF L (σ, w_next_r σ (tkn σ) (rqn σ)) = (w_pn σ L, w_next_r (w_pn σ L) (tkn (w_pn σ L)) (rqn (w_pn σ L))) := (if_neg c1).trans (if_neg c2)
    rw [itF_s, ef] at e ⊢
    have en' := next_wd h tm
    have lo : (σ 0 7).toInt < (w_next_r σ (tkn σ) (rqn σ)).toInt := by
      have P := (nt_p h tm (lat := σ 0 7 + 1) (by
        have i1' : (1 : Int32).toInt = 1 := rfl
        have := h.ti.2
        rw [i_add (by omega) (by omega)]; omega)).2
      rw [en'] at c1 ⊢
      rcases P with ⟨p1, _⟩ | ⟨_, p2, _⟩
      · have := p1.resolve_left c1
        have i1' : (1 : Int32).toInt = 1 := rfl
        have := h.ti.2
        have x : (σ 0 7 + 1).toInt = (σ 0 7).toInt + 1 := by rw [i_add (by omega) (by omega), i1']
        omega
      · exact p2
    have c2' : (w_next_r σ (tkn σ) (rqn σ)).toInt ≤ L.toInt := by rw [lt_i] at c2; omega
    have c1' : (σ 0 7).toInt < L.toInt := by omega
    obtain ⟨μ', a, b, d, f1, f2⟩ := WX1 h tm tx c1' (by omega)
    obtain ⟨i0, i1, i3⟩ := pqA hL K (w_pn σ L) μ' a b d e
    have ntL : w_nt σ L = w_next_r σ (tkn σ) (rqn σ) := nt_of rfl c1 (le_i.mpr c2')
    have e7 : (w_pn σ L) 0 7 = w_next_r σ (tkn σ) (rqn σ) := (pn_t (wI_nr4 h.cr.w)).trans ntL
    generalize (itF (pqF L) K (w_pn σ L, w_next_r (w_pn σ L) (tkn (w_pn σ L)) (rqn (w_pn σ L)))).1 = E at *
    rw [e7] at i1
    refine ⟨i0, by omega, fun K' hK => ?_⟩
    obtain ⟨K2, rfl⟩ : ∃ K2, K' = K2 + 1 := ⟨K' - 1, by omega⟩
    have ne : w_pn σ (E 0 7) = w_pn σ L := pn_eq ((nt_of rfl c1 (le_i.mpr i1)).trans ntL.symm)
    rw [pt_shift (fun z => by rw [le_i] at z; omega), ne]
    exact i3 K2 (by omega)
theorem fe_src {n : Nat} : ∀ k, tk_fe σ k = -1 ∨ ∃ t, t < k ∧ σ 15 t = 0 ∧ tk_fe σ k = σ 14 t
  | 0 => Or.inl rfl
  | k + 1 => by
    have ih := fe_src (n := n) k
    have up : (∃ t, t < k ∧ σ 15 t = 0 ∧ tk_fe σ k = σ 14 t) → ∃ t, t < k + 1 ∧ σ 15 t = 0 ∧ tk_fe σ k = σ 14 t := fun ⟨t, a, b, c⟩ => ⟨t, by omega, b, c⟩
    rw [tk_fe]
    by_cases c : σ 15 k = 0
    · rw [if_pos c]
      by_cases c2 : tk_fe σ k = -1
      · rw [if_pos c2]; exact Or.inr ⟨k, by omega, c, rfl⟩
      · rw [if_neg c2]
        by_cases c3 : tk_fe σ k ≤ σ 14 k
        · rw [if_pos c3]; exact ih.imp id up
        · rw [if_neg c3]; exact Or.inr ⟨k, by omega, c, rfl⟩
    · rw [if_neg c]; exact ih.imp id up
theorem nx_src {n nr : Nat} : ∀ k, w_next_it10 σ n nr k = -1 ∨ (∃ t, t < n ∧ σ 15 t = 0 ∧ w_next_it10 σ n nr k = σ 14 t) ∨ (∃ r, r < k ∧ σ 23 r = 2 ∧ w_next_it10 σ n nr k = σ 30 r) ∨ ∃ r, r < k ∧ ¬ σ 23 r = 2 ∧ w_next_it10 σ n nr k = σ 25 r
  | 0 => (fe_src (n := n) n).imp id Or.inl
  | k + 1 => by
    have ih := nx_src (n := n) (nr := nr) k
    obtain ⟨V, hV⟩ : ∃ V, (if (if (σ 23 k) = (2 : Int32) then (1 : Int32) else (0 : Int32)) = 0 then (σ 25 k) else (σ 30 k)) = V := ⟨_, rfl⟩
    have hv : (σ 23 k = 2 ∧ V = σ 30 k) ∨ (¬ σ 23 k = 2 ∧ V = σ 25 k) := by
      by_cases c : σ 23 k = 2
      · rw [if_pos c, if_neg (by decide)] at hV; exact Or.inl ⟨c, hV.symm⟩
      · rw [if_neg c, if_pos rfl] at hV; exact Or.inr ⟨c, hV.symm⟩
    have st : w_next_it10 σ n nr (k + 1) = if V = -1 then w_next_it10 σ n nr k else (if w_next_it10 σ n nr k = -1 then V else (if w_next_it10 σ n nr k ≤ V then w_next_it10 σ n nr k else V)) := by
      rw [← hV]; rfl
    have st2 : w_next_it10 σ n nr (k + 1) = w_next_it10 σ n nr k ∨ w_next_it10 σ n nr (k + 1) = V := by
      rw [st]
      split
      · exact Or.inl rfl
      · split
        · exact Or.inr rfl
        · split
          · exact Or.inl rfl
          · exact Or.inr rfl
    rcases st2 with e | e
    · rw [e]
      rcases ih with a | ⟨t, a⟩ | ⟨r, a, b⟩ | ⟨r, a, b⟩
      · exact Or.inl a
      · exact Or.inr (Or.inl ⟨t, a⟩)
      · exact Or.inr (Or.inr (Or.inl ⟨r, by omega, b⟩))
      · exact Or.inr (Or.inr (Or.inr ⟨r, by omega, b⟩))
    · rw [e]
      rcases hv with ⟨c, d⟩ | ⟨c, d⟩
      · exact Or.inr (Or.inr (Or.inl ⟨k, by omega, c, d⟩))
      · exact Or.inr (Or.inr (Or.inr ⟨k, by omega, c, d⟩))
theorem J.next (j : J σ) (h : Wd σ μ) (n1 : ¬ w_next_r σ (tkn σ) (rqn σ) = -1) : (w_next_r σ (tkn σ) (rqn σ)).toInt ≤ 11600 := by
  rcases nx_src (σ := σ) (n := tkn σ) (nr := rqn σ) (rqn σ) with a | ⟨t, a, b, c⟩ | ⟨r, a, b, c⟩ | ⟨r, a, b, c⟩
  · exact absurd a n1
  · have e : w_next_r σ (tkn σ) (rqn σ) = σ 14 t := c
    rw [e]; exact (j.1 t a).2.2.2.2.2.2.1 b
  · have e : w_next_r σ (tkn σ) (rqn σ) = σ 30 r := c
    rw [e]
    have := (j.2.1 r a).2.2.1.2.2.2 b
    omega
  · have e : w_next_r σ (tkn σ) (rqn σ) = σ 25 r := c
    rw [e] at n1 ⊢
    have d := (j.2.1 r a).2.2.1
    have js := (j.2.1 r a).2.2.2.1
    have sr := h.sr a
    by_cases z : σ 23 r = 0 ∨ σ 23 r = 1 ∨ σ 23 r = 7
    · rcases z with z | z | z
      · obtain ⟨d1, d2, d3, d4⟩ := d.2.1 z
        have hle := (sr.2.1 (Or.inl z)).1
        have := js.2.1
        omega
      · obtain ⟨d1, d2, d3, d4⟩ := d.2.2.1 z
        have := js.2.1
        omega
      · obtain ⟨d1, d2, d3, d4⟩ := d.1 z
        have := js.2.1
        omega
    · exact absurd (sr.2.2.1 z) n1
theorem pqT {L : Int32} (hL : L.toInt ≤ 1090000) (hL2 : 11600 ≤ L.toInt) : ∀ (K : Nat) (σ μ : pr_I), Wd σ μ → Tm σ → Tx σ → J σ → 11600 < (σ 0 7).toInt + (K : Int) → (itF (pqF L) K (σ, w_next_r σ (tkn σ) (rqn σ))).2 = -1 
  | K, σ, μ, h, tm, tx, j, hK => by
    have i1' : (1 : Int32).toInt = 1 := rfl
    have t1 := h.ti.2
    have t0 := h.ti.1
    by_cases c1 : w_next_r σ (tkn σ) (rqn σ) = -1
    · rw [itF_fix (show pqF L (σ, w_next_r σ (tkn σ) (rqn σ)) = (σ, w_next_r σ (tkn σ) (rqn σ)) from if_pos c1)]
      exact c1
    · have nb := j.next h c1
      have en' := next_wd h tm
      have x : (σ 0 7 + 1).toInt = (σ 0 7).toInt + 1 := by rw [i_add (by omega) (by omega), i1']
      have lo : (σ 0 7).toInt < (w_next_r σ (tkn σ) (rqn σ)).toInt := by
        have P := (nt_p h tm (lat := σ 0 7 + 1) (by omega)).2
        rw [en'] at c1 ⊢
        rcases P with ⟨p1, _⟩ | ⟨_, p2, _⟩
        · have := p1.resolve_left c1
          omega
        · exact p2
      cases K with
      | zero => exact absurd hK (by omega)
      | succ K =>
        have c2 : ¬ L < w_next_r σ (tkn σ) (rqn σ) := fun z => by rw [lt_i] at z; omega
        have ef : pqF L (σ, w_next_r σ (tkn σ) (rqn σ)) = (w_pn σ L, w_next_r (w_pn σ L) (tkn (w_pn σ L)) (rqn (w_pn σ L))) := (if_neg c1).trans (if_neg c2)
        rw [itF_s, ef]
        have c1' : (σ 0 7).toInt < L.toInt := by omega
        obtain ⟨μ', a, b, d, f1, f2⟩ := WX1 h tm tx c1' (by omega)
        exact pqT hL hL2 K (w_pn σ L) μ' a b d (j.one h tm c1' (by omega)) (by omega)
end PRE
