/-! WHAT IS FORESEEN: one step of both -/
theorem end_dead {σ : pr_I} {n nr r : Nat} (h : ¬ σ 23 r = 2) : ∀ k, (w_end_it2 σ n nr k) 23 r = σ 23 r ∧ (w_end_it2 σ n nr k) 25 r = σ 25 r
  | 0 => ⟨rfl, rfl⟩
  | k + 1 => by
    obtain ⟨i1, i2⟩ := end_dead (n := n) (nr := nr) h k
    rw [end_s]
    by_cases c : (w_end_it2 σ n nr k) 23 k = 2
    · have kr : r ≠ k := fun z => h (i1.symm.trans ((congrArg (w_end_it2 σ n nr k 23) z).trans c))
      rw [if_pos c]
      by_cases c2 : σ 30 k = σ 0 7
      · rw [if_pos c2]
        unfold w_settle
        rw [pr_upv (show (23 : Nat) ≠ 25 by decide), pr_upk kr, pr_upk kr, pr_upv (show (25 : Nat) ≠ 23 by decide), fr_w_ra (by decide), fr_w_ra (by decide)]
        exact ⟨i1, i2⟩
      · rw [if_neg c2]; exact ⟨i1, i2⟩
    · rw [if_neg c]; exact ⟨i1, i2⟩
/-- a request without a due time that is not active stays as it is -/
theorem dead_pn {σ μ μ' : pr_I} {T lat : Int32} (h : Wd σ μ) (h0 : 0 ≤ T.toInt) (h1 : T.toInt ≤ 1100000) (eT : w_nt σ lat = T) (hm : pr_up μ' 1 0 (μ' 1 0 + 1) = pr_up μ 1 0 T) {r : Nat} (d2 : ¬ σ 23 r = 2) (d25 : σ 25 r = -1) : (w_pn σ lat) 23 r = σ 23 r := by
  have h4 := wI_nr4 h.cr.w
  have EV := h.ev h0 h1 eT hm
  have base : w_pn_it34 σ lat 0 = w_end_it2 (w_exp_it2 (pr_up σ 0 7 T) (tkn σ) (tkn σ)) (tkn σ) (rqn σ) (rqn σ) := by
    rw [← eT]; rfl
  have fE : ∀ o, o ∈ ([0, 18, 23, 25] : List Nat) → w_exp_it2 (pr_up σ 0 7 T) (tkn σ) (tkn σ) o = pr_up σ 0 7 T o := fun o ho => fr_w_exp_it2 (nin (A := [0, 18, 23, 25]) (by decide) ho)
  have e23 : (w_exp_it2 (pr_up σ 0 7 T) (tkn σ) (tkn σ)) 23 r = σ 23 r := by rw [fE 23 (by decide), pr_upv (by decide)]
  have e25 : (w_exp_it2 (pr_up σ 0 7 T) (tkn σ) (tkn σ)) 25 r = σ 25 r := by rw [fE 25 (by decide), pr_upv (by decide)]
  obtain ⟨B1, B2⟩ := end_dead (σ := w_exp_it2 (pr_up σ 0 7 T) (tkn σ) (tkn σ)) (n := tkn σ) (nr := rqn σ) (r := r) (by rw [e23]; exact d2) (rqn σ)
  rw [← base, e23] at B1
  rw [← base, e25] at B2
  have f0 : ∀ k, k ≤ 40 → (w_pn_it34 σ lat k) 0 7 = T := fun k hk => by
    rw [fr_w_pn_it34 (by decide) (by omega) hk, fr_w_end (by decide), fr_w_exp (by decide)]
    show pr_up σ 0 7 (w_nt σ lat) 0 7 = T
    rw [pr_upe, eT]
  have f18 : ∀ k, k ≤ 40 → (w_pn_it34 σ lat k) 18 = σ 18 := fun k hk => by
    rw [fr_w_pn_it34 (by decide) (by omega) hk, fr_w_end (by decide), fr_w_exp (by decide), pr_up_ne (by decide)]
  have L : ∀ k, k ≤ rqn σ → (w_pn_it34 σ lat k) 23 r = σ 23 r ∧ (w_pn_it34 σ lat k) 25 r = -1 := by
    intro k
    induction k with
    | zero => intro _; exact ⟨B1, B2.trans d25⟩
    | succ k ih =>
      intro hk
      obtain ⟨i1, i2⟩ := ih (by omega)
      rw [pn_s]
      by_cases e : r = k
      · have d : ¬ (w_tr_it2 (w_pn_it34 σ lat k) k 0) 25 k = (w_pn_it34 σ lat k) 0 7 := by
          show ¬ (w_pn_it34 σ lat k) 25 k = (w_pn_it34 σ lat k) 0 7
          rw [f0 k (by omega), (congrArg (w_pn_it34 σ lat k 25) e).symm.trans i2]
          intro y
          rw [← y, m1_i] at h0; omega
        have s := st_w_tr_it2_21 d (sl 1000000)
        rw [Nat.zero_add] at s
        have s2 : w_tr (w_pn_it34 σ lat k) k = w_pn_it34 σ lat k := s
        rw [s2]; exact ⟨i1, i2⟩
      · have rk : k < rqn (w_pn_it34 σ lat k) := by rw [rqn_c (f18 k (by omega))]; exact hk
        obtain ⟨o1, o2, _⟩ := (Opr.tr (EV k (by omega)).1 rk).2.2.2.1 r e
        rw [o1, o2]; exact ⟨i1, i2⟩
  exact (L (rqn σ) (Nat.le_refl _)).1
/-- one step: an event up to lat, or none -/
theorem step1 {σ μ : pr_I} {lat z : Int32} (h : Wd σ μ) (tm : Tm σ) (z0 : 0 ≤ z.toInt) (hz : z.toInt ≤ 100000) (hl : (σ 0 7).toInt + z.toInt = lat.toInt) (hlat : lat.toInt ≤ 1090000) :
    (¬ m_ne_r μ = -1 ∧ (σ 0 7).toInt < (m_ne_r μ).toInt ∧ (m_ne_r μ).toInt ≤ lat.toInt ∧ (m_po_r μ z).toInt = (m_ne_r μ).toInt - (σ 0 7).toInt - 1 ∧ Wd (w_pn σ lat) (m_ts (m_po μ z)) ∧ m_ts_ok (m_po μ z) ∧ Tm (w_pn σ lat) ∧ (w_pn σ lat) 0 7 = m_ne_r μ ∧ rqn (w_pn σ lat) = rqn σ ∧ ∀ r, ¬ σ 23 r = 2 → σ 25 r = -1 → (w_pn σ lat) 23 r = σ 23 r)
    ∨ ((m_ne_r μ = -1 ∨ lat.toInt < (m_ne_r μ).toInt) ∧ m_po_r μ z = z ∧ m_ts_ok (m_po μ z) ∧ ((σ 0 7).toInt < lat.toInt → w_pn σ lat = pr_up σ 0 7 lat)) := by
  have t0 := h.ti.1
  have en : σ 0 7 = μ 1 0 := h.cr.now
  have i1 : (1 : Int32).toInt = 1 := rfl
  have l1 : (lat + 1).toInt = lat.toInt + 1 := i_add (by omega) (by omega)
  have q1 : ∀ _ : ¬ m_ne_r μ = -1 ∧ (σ 0 7).toInt < (m_ne_r μ).toInt, ((m_ne_r μ - μ 1 0) - 1).toInt = (m_ne_r μ).toInt - (σ 0 7).toInt - 1 := fun q => by
    have hlt := (m_ne_r μ).toInt_lt
    have e1 : (m_ne_r μ - μ 1 0).toInt = (m_ne_r μ).toInt - (σ 0 7).toInt := by rw [i_sub (by rw [← en]; omega) (by rw [← en]; omega), ← en]
    rw [i_sub (by rw [e1, i1]; omega) (by rw [e1, i1]; omega), e1, i1]
  -- the event at or behind lat + 1
  obtain ⟨_, P⟩ := nt_p h tm (lat := lat + 1) (by omega)
  have idle : (m_ne_r μ = -1 ∨ lat.toInt < (m_ne_r μ).toInt) → m_po_r μ z = z ∧ m_ts_ok (m_po μ z) := fun q => by
    have lo : ¬ m_ne_r μ = -1 → (σ 0 7).toInt < (m_ne_r μ).toInt := fun n1 => by
      rcases q with q | q
      · exact absurd q n1
      · omega
    have er : m_po_r μ z = z := by
      unfold m_po_r
      by_cases n1 : m_ne_r μ = -1
      · rw [if_pos n1]
      · have q2 := q1 ⟨n1, lo n1⟩
        have q3 := q.resolve_left n1
        rw [if_neg n1]
        have inner : (if (m_ne_r μ - μ 1 0) - 1 < z then (m_ne_r μ - μ 1 0) - 1 else z) = z := if_neg (fun y => by rw [lt_i, q2] at y; omega)
        rw [inner]
        by_cases y : (0 : Int32) < z
        · rw [if_pos y]
        · rw [if_neg y]
          rw [lt_i, show (0 : Int32).toInt = 0 from rfl] at y
          exact Int32.toInt_inj.mp (by rw [show (0 : Int32).toInt = 0 from rfl]; omega)
    refine ⟨er, ?_⟩
    have eT : w_nt σ (lat + 1) = lat + 1 := by
      rcases P with ⟨_, p2, _⟩ | ⟨p1, p2, p3, p4, p5⟩
      · exact p2
      · rw [p4]
        have q3 := q.resolve_left p1
        exact Int32.toInt_inj.mp (by omega)
    have hm : pr_up (m_po μ z) 1 0 ((m_po μ z) 1 0 + 1) = pr_up μ 1 0 (lat + 1) := by
      rw [po_eq, er, pr_upe, pr_up_two]
      congr 1
      have s1 : (μ 1 0 + z).toInt = lat.toInt := by rw [i_add (by rw [← en]; omega) (by rw [← en]; omega), ← en]; omega
      refine Int32.toInt_inj.mp ?_
      rw [l1, i_add (by rw [s1, i1]; omega) (by rw [s1, i1]; omega), s1, i1]
    exact (h.pn (T := lat + 1) (by omega) (by omega) eT hm).2
  by_cases c : lat.toInt ≤ (σ 0 7).toInt
  · -- no time is left
    have far : m_ne_r μ = -1 ∨ lat.toInt < (m_ne_r μ).toInt := by
      rcases P with ⟨p1, _⟩ | ⟨_, p2, _⟩
      · rcases p1 with p1 | p1
        · exact Or.inl p1
        · exact Or.inr (by omega)
      · exact Or.inr (by omega)
    obtain ⟨a, b⟩ := idle far
    exact Or.inr ⟨far, a, b, fun q => by omega⟩
  · obtain ⟨_, Q⟩ := nt_p h tm (lat := lat) (by omega)
    rcases Q with ⟨p1, p2, p3, p4, p5⟩ | ⟨p1, p2, p3, p4, p5⟩
    · obtain ⟨a, b⟩ := idle p1
      exact Or.inr ⟨p1, a, b, fun _ => pn_idle (by omega) p2 p3 p4 p5⟩
    · have q2 := q1 ⟨p1, p2⟩
      have er : m_po_r μ z = (m_ne_r μ - μ 1 0) - 1 := by
        unfold m_po_r
        have inner : (if (m_ne_r μ - μ 1 0) - 1 < z then (m_ne_r μ - μ 1 0) - 1 else z) = (m_ne_r μ - μ 1 0) - 1 := if_pos (by rw [lt_i, q2]; omega)
        rw [if_neg p1, inner]
        by_cases y : (0 : Int32) < (m_ne_r μ - μ 1 0) - 1
        · rw [if_pos y]
        · rw [if_neg y]
          rw [lt_i, q2, show (0 : Int32).toInt = 0 from rfl] at y
          exact Int32.toInt_inj.mp (by rw [q2, show (0 : Int32).toInt = 0 from rfl]; omega)
      have hm : pr_up (m_po μ z) 1 0 ((m_po μ z) 1 0 + 1) = pr_up μ 1 0 (m_ne_r μ) := by
        rw [po_eq, er, pr_upe, pr_up_two]
        congr 1
        refine Int32.toInt_inj.mp ?_
        have s1 : (μ 1 0 + ((m_ne_r μ - μ 1 0) - 1)).toInt = (m_ne_r μ).toInt - 1 := by rw [i_add (by rw [q2, ← en]; omega) (by rw [q2, ← en]; omega), q2, ← en]; omega
        rw [i_add (by rw [s1, i1]; omega) (by rw [s1, i1]; omega), s1, i1]; omega
      have W := h.pn (T := m_ne_r μ) (by omega) (by omega) p4 hm
      have M := Tm.pn h tm.1 p5 (by omega) (by omega) p4 hm
      exact Or.inl ⟨p1, p2, p3, by rw [er, q2], W.1, W.2, M.1, M.2.1, M.2.2, fun r a b => dead_pn h (by omega) (by omega) p4 hm a b⟩
/-- a step many times -/
def itF {α : Type} (F : α → α) : Nat → α → α
  | 0, x => x
  | k + 1, x => F (itF F k x)
theorem itF_s {α : Type} {F : α → α} {x : α} : ∀ k, itF F (k + 1) x = itF F k (F x)
  | 0 => rfl
  | k + 1 => by
    show F (itF F (k + 1) x) = F (itF F k (F x))
    rw [itF_s k]
theorem itF_fix {α : Type} {F : α → α} {x : α} (h : F x = x) : ∀ k, itF F k x = x
  | 0 => rfl
  | k + 1 => by
    show F (itF F k x) = x
    rw [itF_fix h k, h]
