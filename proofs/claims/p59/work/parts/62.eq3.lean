/-! A TICKET GIVEN UP ON BOTH SIDES -/
theorem m_gb0 {μ : pr_I} {t : Nat} : m_gb μ t 0 = μ := by
  unfold m_gb
  rw [Int32.add_zero, pr_up_id rfl, Int32.add_zero, pr_up_id rfl]
theorem m_gb_eq {μ : pr_I} {t r : Nat} {s f a7 a8 : Int32} (hr : r < 40) (e0 : (μ 1 (1384 + 8 * t + 0)).toNatClampNeg = r) (e7 : μ 1 (1384 + 8 * t + 7) = a7) (e8 : μ 1 (264 + 28 * r + 8) = a8) : m_gb (pr_up μ 1 (1384 + 8 * t + 5) s) t f = pr_up (pr_up (pr_up μ 1 (1384 + 8 * t + 5) s) 1 (1384 + 8 * t + 7) (a7 + f)) 1 (264 + 28 * r + 8) (a8 + f) := by
  unfold m_gb
  rw [pr_upk (show 1384 + 8 * t + 7 ≠ 1384 + 8 * t + 5 by omega), pr_upk (show 1384 + 8 * t + 0 ≠ 1384 + 8 * t + 5 by omega), e0, pr_upk (show 264 + 28 * r + 8 ≠ 1384 + 8 * t + 5 by omega), e7, e8]
theorem cells_rel {σ : pr_I} {t : Nat} {s f : Int32} : lkn (w_rel σ t s f) = lkn σ ∧ rqn (w_rel σ t s f) = rqn σ ∧ tkn (w_rel σ t s f) = tkn σ := ⟨rfl, rfl, rfl⟩
theorem Cr.rel {σ μ : pr_I} (h : Cr σ μ) {t : Nat} (ht : t < tkn σ) (hk : ¬ tk_kp σ t = 0) {s f : Int32} (h0 : ¬ s = 0) (h1 : ¬ s = 1) : Cr (w_rel σ t s f) (m_gb (pr_up μ 1 (1384 + 8 * t + 5) s) t f) := by
  have h5 := wI_n5 h.w
  have h4 := wI_nr4 h.w
  have h24 := wI_nl24 h.w
  have hr : (σ 10 t).toNatClampNeg < rqn σ := vp_in_lt (h.tl ht).1
  have hl : (σ 11 t).toNatClampNeg < lkn σ := vp_in_lt (h.tl ht).2
  have e0 : σ 10 t = μ 1 (1384 + 8 * t + 0) := h.tick ht (c := 0) (by decide)
  have e1 : σ 11 t = μ 1 (1384 + 8 * t + 1) := h.tick ht (c := 1) (by decide)
  have e2 : σ 12 t = μ 1 (1384 + 8 * t + 2) := h.tick ht (c := 2) (by decide)
  have e7 : σ 17 t = μ 1 (1384 + 8 * t + 7) := h.tick ht (c := 7) (by decide)
  have e27 : σ 27 (σ 10 t).toNatClampNeg = μ 1 (264 + 28 * (σ 10 t).toNatClampNeg + 8) := h.req hr (c := 8) (by decide)
  have em := m_gb_eq (μ := μ) (t := t) (s := s) (f := f) (r := (σ 10 t).toNatClampNeg) (by omega) (by rw [e0]) e7.symm e27.symm
  refine ⟨wI_w_rel h.w, mI_m_gb (by omega) (mI.upn h.m ((mW_tick (k := t) (c := 5) (by omega) (by decide)).trans rfl)), ?_, fun t' ht' => h.tl ht', fun t' ht' => h.pc ht', fun k hk' => ?_⟩
  · rw [em]
    exact (((h.rc.up (o := 15) (cA_tick (t := t) (c := 5) (by decide))).up (o := 17) (cA_tick (t := t) (c := 7) (by decide))).up (o := 27) (cA_req (r := (σ 10 t).toNatClampNeg) (c := 8) (by omega) (by decide))).cls (Or.inl rfl)
  · have hkl : k < lkn σ := hk'
    have hkept : ¬ m_kept_r μ t = 0 := by rw [← h.kept ht]; exact hk
    have p1 : m_prom_it4 (m_gb (pr_up μ 1 (1384 + 8 * t + 5) s) t f) (tkn σ) (nI k) (tkn σ) = m_prom_it4 (pr_up μ 1 (1384 + 8 * t + 5) s) (tkn σ) (nI k) (tkn σ) := by
      rw [em]
      refine prom_congr _ (fun t' _ c hc => ?_)
      rw [pr_upk (by omega), pr_upk (by omega)]
    show pr_up (pr_up (pr_up (pr_up σ 15 t s) 17 t ((σ 17 t) + f)) 27 ((σ 10 t).toNatClampNeg) ((σ 27 ((σ 10 t).toNatClampNeg)) + f)) 7 ((σ 11 t).toNatClampNeg) ((σ 7 ((σ 11 t).toNatClampNeg)) - (σ 12 t)) 7 k = m_prom_it4 _ (tkn σ) (nI k) (tkn σ)
    rw [p1, prom_rel hkept h0 h1, if_pos ht, ← e1, ← e2]
    have eb : σ 11 t = nI (σ 11 t).toNatClampNeg := vp_nI (h.w 11 t 24 rfl) (by decide)
    by_cases c : k = (σ 11 t).toNatClampNeg
    · subst c
      rw [pr_upe, if_pos eb, h.pr hkl]
    · rw [pr_upk c, pr_upv (by decide), pr_upv (by decide), pr_upv (by decide), if_neg, Int32.sub_zero]
      · exact h.pr hkl
      · intro q
        rw [eb] at q
        exact c ((nI_eq (by omega) (by omega)).mp q).symm
/-- what a request gets back for the ticket k -/
noncomputable def w_am (σ : pr_I) (a b p : Int32) (k : Nat) : Int32 := (((((if (1 : Int32) ≤ b then ((((σ 16 k)).toInt64 * (a).toInt64) / (b).toInt64) else (0 : Int64)) * (p).toInt64) / (100 : Int64))).toInt32)
theorem ra_n {σ : pr_I} {n : Nat} {r a b p : Int32} {k : Nat} : lkn (w_ra_it6 σ n r a b p k).1 = lkn σ ∧ rqn (w_ra_it6 σ n r a b p k).1 = rqn σ ∧ tkn (w_ra_it6 σ n r a b p k).1 = tkn σ := by
  unfold lkn rqn tkn
  rw [fr_w_ra_it6 (o := 1) (by decide), fr_w_ra_it6 (o := 18) (by decide), fr_w_ra_it6 (o := 9) (by decide)]
  exact ⟨rfl, rfl, rfl⟩
theorem ra_step {σ : pr_I} {n : Nat} {r a b p : Int32} {k : Nat} : (w_ra_it6 σ n r a b p (k + 1)).1 = if σ 10 k = r then (if tk_kp (w_ra_it6 σ n r a b p k).1 k = 0 then (w_ra_it6 σ n r a b p k).1 else w_rel (w_ra_it6 σ n r a b p k).1 k 3 (w_am σ a b p k)) else (w_ra_it6 σ n r a b p k).1 := by
  show (if σ 10 k = r then (if tk_kp (w_ra_it6 σ n r a b p k).1 k = 0 then ((w_ra_it6 σ n r a b p k).1, (w_ra_it6 σ n r a b p k).2) else (w_rel (w_ra_it6 σ n r a b p k).1 k 3 (w_am σ a b p k), (w_ra_it6 σ n r a b p k).2 + w_am σ a b p k)) else ((w_ra_it6 σ n r a b p k).1, (w_ra_it6 σ n r a b p k).2)).1 = _
  split
  · split <;> rfl
  · rfl
theorem ra_loop {σ μ : pr_I} (h : Cr σ μ) {n r : Nat} {a b p : Int32} {G : Nat → pr_I} {f : Nat → Int32} (hG0 : G 0 = μ)
    (hG : ∀ k, G (k + 1) = if (G k) 1 (1384 + 8 * k + 0) = nI r then (if m_kept_r (G k) k = 0 then G k else m_gb (pr_up (G k) 1 (1384 + 8 * k + 5) 3) k (f k)) else G k)
    (hf : ∀ k, k < tkn σ → Cr (w_ra_it6 σ n (nI r) a b p k).1 (G k) → w_am σ a b p k = f k) : ∀ k, k ≤ tkn σ → Cr (w_ra_it6 σ n (nI r) a b p k).1 (G k)
  | 0, _ => by rw [hG0]; exact h
  | k + 1, hk => by
    have ih := ra_loop h hG0 hG hf k (by omega)
    obtain ⟨n1, n2, n3⟩ := ra_n (σ := σ) (n := n) (r := nI r) (a := a) (b := b) (p := p) (k := k)
    have ht : k < tkn (w_ra_it6 σ n (nI r) a b p k).1 := by rw [n3]; omega
    have e0 : σ 10 k = (G k) 1 (1384 + 8 * k + 0) := by
      rw [← ih.tick ht (c := 0) (by decide), fr_w_ra_it6 (o := 10) (by decide)]
    have ek := ih.kept ht
    have ef := hf k (by omega) ih
    rw [hG k, ← e0, ← ek, ← ef, ra_step]
    by_cases c : σ 10 k = nI r
    · rw [if_pos c, if_pos c]
      by_cases c2 : tk_kp (w_ra_it6 σ n (nI r) a b p k).1 k = 0
      · rw [if_pos c2, if_pos c2]; exact ih
      · rw [if_neg c2, if_neg c2]
        exact ih.rel ht c2 (by decide) (by decide)
    · rw [if_neg c, if_neg c]; exact ih
/-- a failed attempt gives all back -/
theorem fa_loop {σ μ : pr_I} (h : Cr σ μ) {n r : Nat} {x : Int32} : ∀ k, k ≤ tkn σ → Cr (w_ra_it6 σ n (nI r) 1 1 100 k).1 (m_fa_it2 μ r x k) :=
  ra_loop h (G := m_fa_it2 μ r x) (f := fun k => (m_fa_it2 μ r x k) 1 (1384 + 8 * k + 6)) rfl (fun k => by rw [m_fa_it2]) (fun k hk ih => by
    obtain ⟨n1, n2, n3⟩ := ra_n (σ := σ) (n := n) (r := nI r) (a := 1) (b := 1) (p := 100) (k := k)
    have e6 : σ 16 k = (m_fa_it2 μ r x k) 1 (1384 + 8 * k + 6) := by
      rw [← ih.tick (t := k) (by rw [n3]; exact hk) (c := 6) (by decide), fr_w_ra_it6 (o := 16) (by decide)]
    show w_am σ 1 1 100 k = _
    rw [← e6]
    exact share1 (h.pc hk).1 (h.pc hk).2)
/-- an end gives nothing back -/
theorem end_loop {σ μ : pr_I} (h : Cr σ μ) {n r : Nat} : ∀ k, k ≤ tkn σ → Cr (w_ra_it6 σ n (nI r) 1 1 0 k).1 (m_end_it2 μ r k) :=
  ra_loop h (G := m_end_it2 μ r) (f := fun _ => 0) rfl (fun k => by rw [m_end_it2]; simp only [m_gb0]) (fun k hk ih => share0)
