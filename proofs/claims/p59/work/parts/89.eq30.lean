theorem lt_i {a b : Int32} : a < b ↔ a.toInt < b.toInt := Int32.lt_iff_toInt_lt
theorem le_i {a b : Int32} : a ≤ b ↔ a.toInt ≤ b.toInt := Int32.le_iff_toInt_le
theorem m1_i : (-1 : Int32).toInt = -1 := by decide
theorem fe_p {σ : pr_I} (h : Tk σ) (h0 : 0 ≤ (σ 0 7).toInt) : ∀ k, k ≤ tkn σ → (tk_fe σ k = -1 ∧ ∀ t, t < k → ¬ σ 15 t = 0) ∨ ((σ 0 7).toInt < (tk_fe σ k).toInt ∧ ∀ t, t < k → σ 15 t = 0 → (tk_fe σ k).toInt ≤ (σ 14 t).toInt)
  | 0, _ => Or.inl ⟨rfl, fun t ht => absurd ht (by omega)⟩
  | k + 1, hk => by
    have ih := fe_p h h0 k (by omega)
    have s : tk_fe σ (k + 1) = if σ 15 k = 0 then (if tk_fe σ k = -1 then σ 14 k else if tk_fe σ k ≤ σ 14 k then tk_fe σ k else σ 14 k) else tk_fe σ k := by rw [tk_fe]
    rw [s]
    by_cases c : σ 15 k = 0
    · have hk2 := (h k hk).2 c
      rw [if_pos c]
      refine Or.inr ?_
      by_cases c1 : tk_fe σ k = -1
      · rw [if_pos c1]
        refine ⟨hk2, fun t ht z => ?_⟩
        rcases ih with x | x
        · by_cases q : t = k
          · rw [q]; exact Int.le_refl _
          · exact absurd z (x.2 t (by omega))
        · have := x.1; rw [c1, m1_i] at this; omega
      · rcases ih with x | x
        · exact absurd x.1 c1
        · rw [if_neg c1]
          by_cases c2 : tk_fe σ k ≤ σ 14 k
          · rw [if_pos c2]
            rw [le_i] at c2
            refine ⟨x.1, fun t ht z => ?_⟩
            by_cases q : t = k
            · rw [q]; exact c2
            · exact x.2 t (by omega) z
          · rw [if_neg c2]
            rw [le_i] at c2
            refine ⟨hk2, fun t ht z => ?_⟩
            by_cases q : t = k
            · rw [q]; exact Int.le_refl _
            · have := x.2 t (by omega) z; omega
    · rw [if_neg c]
      rcases ih with x | x
      · refine Or.inl ⟨x.1, fun t ht => ?_⟩
        by_cases q : t = k
        · rw [q]; exact c
        · exact x.2 t (by omega)
      · refine Or.inr ⟨x.1, fun t ht z => ?_⟩
        by_cases q : t = k
        · rw [q] at z; exact absurd z c
        · exact x.2 t (by omega) z
/-- what of a request is to come -/
noncomputable def rd (σ : pr_I) (k : Nat) : Int32 := if (if (σ 23 k) = (2 : Int32) then (1 : Int32) else (0 : Int32)) = 0 then (σ 25 k) else (σ 30 k)
theorem nx_s {σ : pr_I} {n nr k : Nat} : w_next_it10 σ n nr (k + 1) = if rd σ k = -1 then w_next_it10 σ n nr k else if w_next_it10 σ n nr k = -1 then rd σ k else if w_next_it10 σ n nr k ≤ rd σ k then w_next_it10 σ n nr k else rd σ k := by
  rw [w_next_it10]; rfl
theorem nx_p {σ : pr_I} (h : Tm σ) (h0 : 0 ≤ (σ 0 7).toInt) (hd : ∀ r, r < rqn σ → σ 23 r = 2 → σ 25 r = -1) {nr : Nat} : ∀ k, k ≤ rqn σ → (w_next_it10 σ (tkn σ) nr k = -1 ∧ (∀ t, t < tkn σ → ¬ σ 15 t = 0) ∧ ∀ r, r < k → ¬ σ 23 r = 2 ∧ σ 25 r = -1) ∨ ((σ 0 7).toInt < (w_next_it10 σ (tkn σ) nr k).toInt ∧ (∀ t, t < tkn σ → σ 15 t = 0 → (w_next_it10 σ (tkn σ) nr k).toInt ≤ (σ 14 t).toInt) ∧ ∀ r, r < k → (σ 23 r = 2 → (w_next_it10 σ (tkn σ) nr k).toInt ≤ (σ 30 r).toInt) ∧ (σ 25 r = -1 ∨ (w_next_it10 σ (tkn σ) nr k).toInt ≤ (σ 25 r).toInt))
  | 0, _ => by
    have e : w_next_it10 σ (tkn σ) nr 0 = tk_fe σ (tkn σ) := rfl
    rw [e]
    rcases fe_p h.1 h0 (tkn σ) (Nat.le_refl _) with x | x
    · exact Or.inl ⟨x.1, x.2, fun r hr => absurd hr (by omega)⟩
    · exact Or.inr ⟨x.1, x.2, fun r hr => absurd hr (by omega)⟩
  | k + 1, hk => by
    have ih := nx_p h h0 hd (nr := nr) k (by omega)
    have a1 := h.2.1 k hk
    have a2 := h.2.2 k hk
    have a3 := hd k hk
    -- the request's own time
    have R : (rd σ k = -1 ∧ ¬ σ 23 k = 2 ∧ σ 25 k = -1) ∨ ((σ 0 7).toInt < (rd σ k).toInt ∧ ¬ rd σ k = -1 ∧ (σ 23 k = 2 → σ 30 k = rd σ k) ∧ (σ 25 k = -1 ∨ σ 25 k = rd σ k)) := by
      unfold rd
      by_cases c : σ 23 k = 2
      · rw [if_pos c, if_neg (show ¬ (1 : Int32) = 0 by decide)]
        refine Or.inr ⟨a1 c, fun z => ?_, fun _ => rfl, Or.inl (a3 c)⟩
        have := a1 c; rw [z, m1_i] at this; omega
      · rw [if_neg c, if_pos rfl]
        rcases a2 with x | x
        · exact Or.inl ⟨x, c, x⟩
        · refine Or.inr ⟨x, fun z => ?_, fun z => absurd z c, Or.inr rfl⟩
          rw [z, m1_i] at x; omega
    rw [nx_s]
    rcases R with ⟨r1, r2, r3⟩ | ⟨r1, r2, r3, r4⟩
    · rw [if_pos r1]
      rcases ih with x | x
      · refine Or.inl ⟨x.1, x.2.1, fun r hr => ?_⟩
        by_cases q : r = k
        · rw [q]; exact ⟨r2, r3⟩
        · exact x.2.2 r (by omega)
      · refine Or.inr ⟨x.1, x.2.1, fun r hr => ?_⟩
        by_cases q : r = k
        · rw [q]; exact ⟨fun z => absurd z r2, Or.inl r3⟩
        · exact x.2.2 r (by omega)
    · rw [if_neg r2]
      refine Or.inr ?_
      have own : ∀ v : Int32, v.toInt ≤ (rd σ k).toInt → (σ 23 k = 2 → v.toInt ≤ (σ 30 k).toInt) ∧ (σ 25 k = -1 ∨ v.toInt ≤ (σ 25 k).toInt) := fun v hv => by
        refine ⟨fun z => by rw [r3 z]; exact hv, ?_⟩
        rcases r4 with y | y
        · exact Or.inl y
        · exact Or.inr (by rw [y]; exact hv)
      rcases ih with x | x
      · rw [if_pos x.1]
        refine ⟨r1, fun t ht z => absurd z (x.2.1 t ht), fun r hr => ?_⟩
        by_cases q : r = k
        · rw [q]; exact own _ (Int.le_refl _)
        · exact ⟨fun z => absurd z (x.2.2 r (by omega)).1, Or.inl (x.2.2 r (by omega)).2⟩
      · rw [if_neg (fun z => by have := x.1; rw [z, m1_i] at this; omega)]
        by_cases c2 : w_next_it10 σ (tkn σ) nr k ≤ rd σ k
        · rw [if_pos c2]
          rw [le_i] at c2
          refine ⟨x.1, x.2.1, fun r hr => ?_⟩
          by_cases q : r = k
          · rw [q]; exact own _ c2
          · exact x.2.2 r (by omega)
        · rw [if_neg c2]
          rw [le_i] at c2
          refine ⟨r1, fun t ht z => by have := x.2.1 t ht z; omega, fun r hr => ?_⟩
          by_cases q : r = k
          · rw [q]; exact own _ (Int.le_refl _)
          · have y := x.2.2 r (by omega)
            refine ⟨fun z => by have := y.1 z; omega, ?_⟩
            rcases y.2 with w | w
            · exact Or.inl w
            · exact Or.inr (by omega)
/-- the time of the class' next event -/
theorem nt_p {σ μ : pr_I} (h : Wd σ μ) (tm : Tm σ) {lat : Int32} (hl : (σ 0 7).toInt < lat.toInt) : w_next_r σ (tkn σ) (rqn σ) = m_ne_r μ ∧ ((m_ne_r μ = -1 ∨ lat.toInt < (m_ne_r μ).toInt) ∧ w_nt σ lat = lat ∧ (∀ t, t < tkn σ → σ 15 t = 0 → lat.toInt < (σ 14 t).toInt) ∧ (∀ r, r < rqn σ → σ 23 r = 2 → lat.toInt < (σ 30 r).toInt) ∧ (∀ r, r < rqn σ → σ 25 r = -1 ∨ lat.toInt < (σ 25 r).toInt) ∨ (¬ m_ne_r μ = -1 ∧ (σ 0 7).toInt < (m_ne_r μ).toInt ∧ (m_ne_r μ).toInt ≤ lat.toInt ∧ w_nt σ lat = m_ne_r μ ∧ Tb σ (m_ne_r μ))) := by
  have h0 := h.ti.1
  have ne : ∀ t, t < tkn σ → ¬ σ 14 t = -1 := fun t ht z => by
    have := (tm.1 t ht).1; rw [z, m1_i] at this; omega
  have e : w_next_r σ (tkn σ) (rqn σ) = m_ne_r μ := by
    unfold w_next_r m_ne_r
    rw [h.cr.rn]
    exact next_eq h ne rfl (rqn σ) (Nat.le_refl _)
  have P := nx_p tm h0 (fun r hr z => (h.sr hr).2.2.1 (by rw [z]; decide)) (nr := rqn σ) (rqn σ) (Nat.le_refl _)
  have P2 : w_next_it10 σ (tkn σ) (rqn σ) (rqn σ) = m_ne_r μ := e
  rw [P2] at P
  refine ⟨e, ?_⟩
  unfold w_nt
  rw [e]
  rcases P with x | x
  · refine Or.inl ⟨Or.inl x.1, if_pos x.1, fun t ht z => absurd z (x.2.1 t ht), fun r hr z => absurd z (x.2.2 r hr).1, fun r hr => Or.inl (x.2.2 r hr).2⟩
  · have n1 : ¬ m_ne_r μ = -1 := fun z => by have := x.1; rw [z, m1_i] at this; omega
    by_cases c : m_ne_r μ ≤ lat
    · refine Or.inr ⟨n1, x.1, le_i.mp c, by rw [if_neg n1, if_pos c], x.2.1, fun r hr => (x.2.2 r hr).1, fun r hr => (x.2.2 r hr).2⟩
    · have c' : lat.toInt < (m_ne_r μ).toInt := by rw [le_i] at c; omega
      refine Or.inl ⟨Or.inr c', by rw [if_neg n1, if_neg c], fun t ht z => by have := x.2.1 t ht z; omega, fun r hr z => by have := (x.2.2 r hr).1 z; omega, fun r hr => ?_⟩
      rcases (x.2.2 r hr).2 with w | w
      · exact Or.inl w
      · exact Or.inr (by omega)
/-- no event: the time alone -/
theorem pn_idle {σ : pr_I} {lat : Int32} (h0 : 0 ≤ lat.toInt) (eT : w_nt σ lat = lat) (a : ∀ t, t < tkn σ → σ 15 t = 0 → lat.toInt < (σ 14 t).toInt) (b : ∀ r, r < rqn σ → σ 23 r = 2 → lat.toInt < (σ 30 r).toInt) (c : ∀ r, r < rqn σ → σ 25 r = -1 ∨ lat.toInt < (σ 25 r).toInt) : w_pn σ lat = pr_up σ 0 7 lat := by
  have E : ∀ k, k ≤ tkn σ → w_exp_it2 (pr_up σ 0 7 lat) (tkn σ) k = pr_up σ 0 7 lat := by
    intro k
    induction k with
    | zero => intro _; rfl
    | succ k ih =>
      intro hk
      rw [exp_s, ih (by omega)]
      by_cases z : (pr_up σ 0 7 lat) 15 k = 0
      · rw [if_pos z, if_neg]
        intro y
        rw [pr_upe, pr_upv (by decide)] at y
        rw [pr_upv (by decide)] at z
        have := a k hk z
        rw [y] at this; omega
      · rw [if_neg z]
  have N : ∀ k, k ≤ rqn σ → w_end_it2 (pr_up σ 0 7 lat) (tkn σ) (rqn σ) k = pr_up σ 0 7 lat := by
    intro k
    induction k with
    | zero => intro _; rfl
    | succ k ih =>
      intro hk
      rw [end_s, ih (by omega)]
      by_cases z : (pr_up σ 0 7 lat) 23 k = 2
      · rw [if_pos z, if_neg]
        intro y
        rw [pr_upe, pr_upv (by decide)] at y
        rw [pr_upv (by decide)] at z
        have := b k hk z
        rw [y] at this; omega
      · rw [if_neg z]
  have base : w_pn_it34 σ lat 0 = pr_up σ 0 7 lat := by
    have e : w_pn_it34 σ lat 0 = w_end_it2 (w_exp_it2 (pr_up σ 0 7 (w_nt σ lat)) (tkn σ) (tkn σ)) (tkn σ) (rqn σ) (rqn σ) := rfl
    rw [e, eT, E (tkn σ) (Nat.le_refl _), N (rqn σ) (Nat.le_refl _)]
  have L : ∀ k, k ≤ rqn σ → w_pn_it34 σ lat k = pr_up σ 0 7 lat := by
    intro k
    induction k with
    | zero => intro _; exact base
    | succ k ih =>
      intro hk
      rw [pn_s, ih (by omega)]
      have d : ¬ (w_tr_it2 (pr_up σ 0 7 lat) k 0) 25 k = (pr_up σ 0 7 lat) 0 7 := by
        show ¬ (pr_up σ 0 7 lat) 25 k = (pr_up σ 0 7 lat) 0 7
        rw [pr_upe, pr_upv (by decide)]
        intro y
        rcases c k hk with x | x
        · rw [x] at y; rw [← y, m1_i] at h0; omega
        · rw [y] at x; omega
      have s := st_w_tr_it2_21 d (sl 1000000)
      rw [Nat.zero_add] at s
      exact s
  exact L (rqn σ) (Nat.le_refl _)
