/-! TIME PASSED ON BOTH SIDES -/
theorem pt_s {σ : pr_I} {lat : Int32} {k : Nat} : w_pt_it2 σ lat (k + 1) = (if lat ≤ ((w_pt_it2 σ lat k) 0 7) then (w_pt_it2 σ lat k) else (w_pn (w_pt_it2 σ lat k) lat)) := by rw [w_pt_it2]
theorem pt_shift {σ : pr_I} {lat : Int32} (h : ¬ lat ≤ σ 0 7) : ∀ k, w_pt_it2 σ lat (k + 1) = w_pt_it2 (w_pn σ lat) lat k
  | 0 => by
    rw [pt_s]; exact if_neg h
  | k + 1 => by
    have ih := pt_shift h k
    rw [pt_s, ih, pt_s]
theorem pt_stay {σ : pr_I} {lat : Int32} (h : lat ≤ σ 0 7) (k : Nat) : w_pt_it2 σ lat k = σ := by
  have := st_w_pt_it2_13 (σ := σ) (lat := lat) (k := 0) h k
  rw [Nat.zero_add] at this; exact this
theorem po_eq {μ : pr_I} {z : Int32} : m_po μ z = pr_up μ 1 0 (μ 1 0 + m_po_r μ z) := rfl
theorem Tm.time {σ : pr_I} {lat : Int32} (tm : Tm σ) (a : ∀ t, t < tkn σ → σ 15 t = 0 → lat.toInt < (σ 14 t).toInt) (b : ∀ r, r < rqn σ → σ 23 r = 2 → lat.toInt < (σ 30 r).toInt) (c : ∀ r, r < rqn σ → σ 25 r = -1 ∨ lat.toInt < (σ 25 r).toInt) : Tm (pr_up σ 0 7 lat) := by
  refine ⟨fun t ht => ?_, fun r hr z => ?_, fun r hr => ?_⟩
  · rw [pr_upe, pr_upv (by decide), pr_upv (by decide)]
    exact ⟨(tm.1 t ht).1, fun z => a t ht z⟩
  · rw [pr_upv (by decide)] at z
    rw [pr_upe, pr_upv (by decide)]; exact b r hr z
  · rw [pr_upe, pr_upv (by decide)]; exact c r hr
theorem pass_gn {lat z : Int32} {μ0 : pr_I} (hz : z.toInt ≤ 100000) (hlat : lat.toInt ≤ 1100000) : ∀ d : Nat, ∀ (j K : Nat) (σ μ : pr_I) (x : Int32), Wd σ μ → Tm σ → 0 ≤ x.toInt → z.toInt - x.toInt = d → (σ 0 7).toInt + d = lat.toInt → d < j → d ≤ K →
    Wd (w_pt_it2 σ lat K) (m_gn_fl2 μ0 z j μ x) ∧ m_gn_ok2 μ0 z j μ x ∧ Tm (w_pt_it2 σ lat K) ∧ (w_pt_it2 σ lat K) 0 7 = lat := by
  intro d
  induction d using Nat.strongRecOn with
  | ind d ih =>
  intro j K σ μ x h tm hx hd hl hj hK
  obtain ⟨j, rfl⟩ : ∃ i, j = i + 1 := ⟨j - 1, by omega⟩
  have t0 := h.ti.1
  rw [m_gn_fl2, m_gn_ok2]
  by_cases c0 : z ≤ x
  · have c0' := le_i.mp c0
    have : lat ≤ σ 0 7 := le_i.mpr (by omega)
    have e : σ 0 7 = lat := Int32.toInt_inj.mp (by omega)
    rw [if_pos c0, if_pos c0, pt_stay this]
    exact ⟨h, trivial, tm, e⟩
  · have c0' : ¬ z.toInt ≤ x.toInt := fun q => c0 (le_i.mpr q)
    rw [if_neg c0, if_neg c0]
    have en : σ 0 7 = μ 1 0 := h.cr.now
    have ezz : (z - x).toInt = d := by rw [i_sub (by omega) (by omega)]; exact hd
    have nl : ¬ lat ≤ σ 0 7 := fun q => by rw [le_i] at q; omega
    have xz : x + (z - x) = z := by rw [Int32.add_comm]; exact Int32.sub_add_cancel z x
    have nowz : μ 1 0 + (z - x) = lat := Int32.toInt_inj.mp (by rw [← en, i_add (by omega) (by omega), ezz]; exact hl)
    obtain ⟨_, P⟩ := nt_p h tm (lat := lat) (by omega)
    obtain ⟨K, rfl⟩ : ∃ i, K = i + 1 := ⟨K - 1, by omega⟩
    rw [pt_shift nl]
    have l0 : 0 ≤ lat.toInt := by omega
    rcases P with ⟨p1, p2, p3, p4, p5⟩ | ⟨p1, p2, p3, p4, p5⟩
    · have er : m_po_r μ (z - x) = z - x := by
        unfold m_po_r
        rcases p1 with q | q
        · rw [if_pos q]
        · have n1 : ¬ m_ne_r μ = -1 := fun y => by rw [y, m1_i] at q; omega
          have hlt := (m_ne_r μ).toInt_lt
          have q1 : ((m_ne_r μ - μ 1 0) - 1).toInt = (m_ne_r μ).toInt - (σ 0 7).toInt - 1 := by
            rw [i_sub (b := 1) (by rw [i_sub (by rw [← en]; omega) (by rw [← en]; omega), ← en, show (1 : Int32).toInt = 1 from rfl]; omega) (by rw [i_sub (by rw [← en]; omega) (by rw [← en]; omega), ← en, show (1 : Int32).toInt = 1 from rfl]; omega), i_sub (by rw [← en]; omega) (by rw [← en]; omega), ← en]; rfl
          have inner : (if (m_ne_r μ - μ 1 0) - 1 < z - x then (m_ne_r μ - μ 1 0) - 1 else z - x) = z - x := if_neg (fun y => by rw [lt_i, q1, ezz] at y; omega)
          rw [if_neg n1, inner, if_pos (by rw [lt_i, ezz]; show (0 : Int) < _; omega)]
      rw [er, xz, if_pos rfl, if_pos rfl, po_eq, er, nowz, pn_idle l0 p2 p3 p4 p5, pt_stay (by rw [pr_upe]; exact le_i.mpr (Int.le_refl _))]
      exact ⟨h.time l0 hlat, trivial, tm.time p3 p4 p5, pr_upe⟩
    · have hlt := (m_ne_r μ).toInt_lt
      have q1 : ((m_ne_r μ - μ 1 0) - 1).toInt = (m_ne_r μ).toInt - (σ 0 7).toInt - 1 := by
        rw [i_sub (b := 1) (by rw [i_sub (by rw [← en]; omega) (by rw [← en]; omega), ← en, show (1 : Int32).toInt = 1 from rfl]; omega) (by rw [i_sub (by rw [← en]; omega) (by rw [← en]; omega), ← en, show (1 : Int32).toInt = 1 from rfl]; omega), i_sub (by rw [← en]; omega) (by rw [← en]; omega), ← en]; rfl
      have er : m_po_r μ (z - x) = (m_ne_r μ - μ 1 0) - 1 := by
        unfold m_po_r
        have inner : (if (m_ne_r μ - μ 1 0) - 1 < z - x then (m_ne_r μ - μ 1 0) - 1 else z - x) = (m_ne_r μ - μ 1 0) - 1 := if_pos (by rw [lt_i, q1, ezz]; omega)
        rw [if_neg p1, inner]
        by_cases y : (0 : Int32) < (m_ne_r μ - μ 1 0) - 1
        · rw [if_pos y]
        · rw [if_neg y]
          rw [lt_i, q1, show (0 : Int32).toInt = 0 from rfl] at y
          exact Int32.toInt_inj.mp (by rw [q1, show (0 : Int32).toInt = 0 from rfl]; omega)
      have xe : (x + ((m_ne_r μ - μ 1 0) - 1)).toInt = x.toInt + ((m_ne_r μ).toInt - (σ 0 7).toInt - 1) := by rw [i_add (by rw [q1]; omega) (by rw [q1]; omega), q1]
      have nz : ¬ x + ((m_ne_r μ - μ 1 0) - 1) = z := fun y => by
        rw [y] at xe; omega
      have xe2 : (x + ((m_ne_r μ - μ 1 0) - 1) + Int32.ofInt 1).toInt = x.toInt + ((m_ne_r μ).toInt - (σ 0 7).toInt) := by
        have o1 : (Int32.ofInt 1).toInt = 1 := by decide
        rw [i_add (by rw [xe, o1]; omega) (by rw [xe, o1]; omega), xe, o1]; omega
      have hm : pr_up (m_po μ (z - x)) 1 0 ((m_po μ (z - x)) 1 0 + 1) = pr_up μ 1 0 (m_ne_r μ) := by
        rw [po_eq, er, pr_upe, pr_up_two]
        congr 1
        refine Int32.toInt_inj.mp ?_
        have s1 : (μ 1 0 + ((m_ne_r μ - μ 1 0) - 1)).toInt = (m_ne_r μ).toInt - 1 := by rw [i_add (by rw [q1, ← en]; omega) (by rw [q1, ← en]; omega), q1, ← en]; omega
        rw [i_add (by rw [s1, show (1 : Int32).toInt = 1 from rfl]; omega) (by rw [s1, show (1 : Int32).toInt = 1 from rfl]; omega), s1, show (1 : Int32).toInt = 1 from rfl]; omega
      have W := h.pn (T := m_ne_r μ) (by omega) (by omega) p4 hm
      have M := Tm.pn h tm.1 p5 (by omega) (by omega) p4 hm
      rw [er, if_neg nz, if_neg nz]
      have R := ih (d - ((m_ne_r μ).toInt - (σ 0 7).toInt).toNat) (by omega) j K (w_pn σ lat) (m_ts (m_po μ (z - x))) (x + ((m_ne_r μ - μ 1 0) - 1) + Int32.ofInt 1) W.1 M.1 (by omega) (by omega) (by rw [M.2.1]; omega) (by omega) (by omega)
      exact ⟨R.1, ⟨W.2, R.2.1⟩, R.2.2.1, R.2.2.2⟩
/-- the class' passTo is the reference's goesOn -/
theorem Wd.pass {σ μ : pr_I} {lat z : Int32} (h : Wd σ μ) (tm : Tm σ) (h0 : 0 ≤ z.toInt) (hz : z.toInt ≤ 2000) (hl : (σ 0 7).toInt + z.toInt = lat.toInt) (hlat : lat.toInt ≤ 1100000) : Wd (w_pt σ lat) (m_gn μ z) ∧ m_gn_ok μ z ∧ Tm (w_pt σ lat) ∧ (w_pt σ lat) 0 7 = lat := by
  have := pass_gn (lat := lat) (z := z) (μ0 := μ) (by omega) hlat z.toInt.toNat (sl 2001) (sl 1000000) σ μ 0 h tm (by decide) (by rw [show (0 : Int32).toInt = 0 from rfl]; omega) (by omega) (by rw [sl_eq]; omega) (by rw [sl_eq]; omega)
  exact this
