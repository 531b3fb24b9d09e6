/-- the first tight link out of x -/
noncomputable def nxl (σ a : pr_I) (u : Int32) (nl x : Nat) : Nat := Classical.epsilon (fun j => Fst σ a u nl x j)
/-- the nodes of the way -/
noncomputable def nd (σ a : pr_I) (u : Int32) (nl s : Nat) : Nat → Nat
  | 0 => s
  | k + 1 => bf_g σ (nxl σ a u nl (nd σ a u nl s k))
theorem nd_s {σ a : pr_I} {u : Int32} {nl s k : Nat} : nd σ a u nl s (k + 1) = bf_g σ (nxl σ a u nl (nd σ a u nl s k)) := rfl
section WAY
variable {σ μ a b : pr_I} {u v t : Int32} {nl nn s : Nat}
theorem nxl_f (h : WF σ μ a b u v t nl nn) {x : Nat} (hx : x < nn) (hxt : x ≠ t.toNatClampNeg) (hF : bf_D a x < 1000000000) : Fst σ a u nl x (nxl σ a u nl x) := by
  exact Classical.epsilon_spec (h.good hx hxt hF)
/-- steps are the label's rest by sixteen -/
theorem WF.rest (h : WF σ μ a b u v t nl nn) {x : Nat} (hx : x < nn) (hF : bf_D a x < 1000000000) : bf_D a x % 16 ≤ 11 ∧ (bf_D a x % 16 = 0 ↔ x = t.toNatClampNeg) := by
  have hn := h.1.2.1
  rcases h.2.2.1.at hx hn with ⟨_, _, q⟩ | ⟨P, S, _, _, _, q4, q5, q6, _⟩
  · omega
  · refine ⟨by omega, fun z => ?_, fun z => ?_⟩
    · by_cases y : x = t.toNatClampNeg
      · exact y
      · obtain ⟨j, _, g, _⟩ := h.good hx y hF
        have g3 := g.2.2
        have hw : bf_w σ j = 16 * (σ 5 j).toNatClampNeg + 1 := rfl
        omega
    · have := h.2.2.2.2.2.1
      rw [z, this]
theorem WF.next (h : WF σ μ a b u v t nl nn) {x : Nat} (hx : x < nn) (hxt : x ≠ t.toNatClampNeg) (hF : bf_D a x < 1000000000) : bf_g σ (nxl σ a u nl x) < nn ∧ bf_D a (bf_g σ (nxl σ a u nl x)) < bf_D a x ∧ bf_D a (bf_g σ (nxl σ a u nl x)) % 16 + 1 = bf_D a x % 16 := by
  obtain ⟨j1, g, _⟩ := nxl_f h hx hxt hF
  generalize nxl σ a u nl x = j at *
  have hn := h.1.2.1
  have hy : bf_g σ j < nn := vp_in_lt (h.1.2.2 j j1).2.1
  have g3 := g.2.2
  have hw : bf_w σ j = 16 * (σ 5 j).toNatClampNeg + 1 := rfl
  have lt : bf_D a (bf_g σ j) < bf_D a x := by omega
  have r := (h.rest hy (by omega)).1
  exact ⟨hy, lt, by omega⟩
theorem WF.way (h : WF σ μ a b u v t nl nn) (hs : s < nn) (hF : bf_D a s < 1000000000) : ∀ k, k ≤ bf_D a s % 16 → nd σ a u nl s k < nn ∧ bf_D a (nd σ a u nl s k) < 1000000000 ∧ bf_D a (nd σ a u nl s k) % 16 + k = bf_D a s % 16 ∧ (∀ i, i < k → bf_D a (nd σ a u nl s k) < bf_D a (nd σ a u nl s i))
  | 0, _ => ⟨hs, hF, rfl, fun i hi => by omega⟩
  | k + 1, hk => by
    obtain ⟨i1, i2, i3, i4⟩ := h.way hs hF k (by omega)
    have nt : nd σ a u nl s k ≠ t.toNatClampNeg := fun z => by
      have := (h.rest i1 i2).2.mpr z
      omega
    obtain ⟨n1, n2, n3⟩ := h.next i1 nt i2
    rw [nd_s]
    refine ⟨n1, by omega, by omega, fun i hi => ?_⟩
    by_cases q : i = k
    · rw [q]; exact n2
    · exact Nat.lt_trans n2 (i4 i (by omega))
theorem WF.nt (h : WF σ μ a b u v t nl nn) (hs : s < nn) (hF : bf_D a s < 1000000000) {k : Nat} (hk : k < bf_D a s % 16) : nd σ a u nl s k ≠ t.toNatClampNeg ∧ Fst σ a u nl (nd σ a u nl s k) (nxl σ a u nl (nd σ a u nl s k)) := by
  obtain ⟨i1, i2, i3, i4⟩ := h.way hs hF k (by omega)
  have nt : nd σ a u nl s k ≠ t.toNatClampNeg := fun z => by
    have := (h.rest i1 i2).2.mpr z
    omega
  exact ⟨nt, nxl_f h i1 nt i2⟩
theorem WF.te (h : WF σ μ a b u v t nl nn) (hs : s < nn) (hF : bf_D a s < 1000000000) : nd σ a u nl s (bf_D a s % 16) = t.toNatClampNeg := by
  obtain ⟨i1, i2, i3, i4⟩ := h.way hs hF (bf_D a s % 16) (Nat.le_refl _)
  exact (h.rest i1 i2).2.mp (by omega)
/-- the links of the way differ -/
theorem WF.dis (h : WF σ μ a b u v t nl nn) (hs : s < nn) (hF : bf_D a s < 1000000000) {p q : Nat} (hpq : p < q) (hq : q < bf_D a s % 16) : nxl σ a u nl (nd σ a u nl s p) ≠ nxl σ a u nl (nd σ a u nl s q) := fun e => by
  obtain ⟨_, _, g1, _⟩ := h.nt hs hF (k := p) (by omega)
  obtain ⟨_, _, g2, _⟩ := h.nt hs hF (k := q) hq
  have e1 := g1.2.1
  have e2 := g2.2.1
  rw [e] at e1
  have := (h.way hs hF q (by omega)).2.2.2 p hpq
  rw [e1.symm.trans e2] at this
  exact Nat.lt_irrefl _ this
/-! the class' walk -/
noncomputable def cst (σ a : pr_I) (u : Int32) (nl s : Nat) : Nat → pr_I
  | 0 => a
  | k + 1 => pr_up (pr_up (cst σ a u nl s k) 117 k (nI (nxl σ a u nl (nd σ a u nl s k)))) 116 1 (nI (k + 1))
theorem cst_s {k : Nat} : cst σ a u nl s (k + 1) = pr_up (pr_up (cst σ a u nl s k) 117 k (nI (nxl σ a u nl (nd σ a u nl s k)))) 116 1 (nI (k + 1)) := rfl
theorem cst_r {o : Nat} (h1 : o ≠ 116) (h2 : o ≠ 117) : ∀ k, cst σ a u nl s k o = a o
  | 0 => rfl
  | k + 1 => by rw [cst_s, pr_up_ne h1, pr_up_ne h2]; exact cst_r h1 h2 k
theorem cst_117 : ∀ k p, p < k → cst σ a u nl s k 117 p = nI (nxl σ a u nl (nd σ a u nl s p))
  | 0, _, h => absurd h (by omega)
  | k + 1, p, h => by
    rw [cst_s, pr_upv (by decide)]
    by_cases q : p = k
    · rw [q, pr_upe]
    · rw [pr_upk q]; exact cst_117 k p (by omega)
theorem cst_len (h0 : a 116 1 = nI 0) : ∀ k, cst σ a u nl s k 116 1 = nI k
  | 0 => h0
  | k + 1 => by rw [cst_s, pr_upe]
theorem rl_walk (h : WF σ μ a b u v t nl nn) (a2 : a 2 = σ 2) (a3 : a 3 = σ 3) (a5 : a 5 = σ 5) (hs : s < nn) (hF : bf_D a s < 1000000000) {S : Int32} : ∀ k, k ≤ bf_D a s % 16 → pt_find_rl32 σ nl S t u 12 0 a (nI s) = pt_find_rl32 σ nl S t u (12 - k) k (cst σ a u nl s k) (nI (nd σ a u nl s k))
  | 0, _ => rfl
  | k + 1, hk => by
    rw [rl_walk h a2 a3 a5 hs hF (S := S) k (by omega)]
    have hn := h.1.2.1
    have hl := h.1.1
    have r11 := (h.rest hs hF).1
    obtain ⟨w1, w2, w3, w4⟩ := h.way hs hF k (by omega)
    obtain ⟨nt, f⟩ := h.nt hs hF (k := k) (by omega)
    have f1 := f.1
    have et : t = nI t.toNatClampNeg := vp_nI h.2.2.2.2.2.2 (by omega)
    have ef : pt_first_r (cst σ a u nl s k) nl (nI (nd σ a u nl s k)) u = nI (nxl σ a u nl (nd σ a u nl s k)) := first_rl h.1 h.2.2.1 ((cst_r (by decide) (by decide) k).trans a2) ((cst_r (by decide) (by decide) k).trans a3) ((cst_r (by decide) (by decide) k).trans a5) (cst_r (by decide) (by decide) k) w1 f (nl + 1) 0 (Nat.zero_le _) (by omega)
    have e3 : σ 3 (nxl σ a u nl (nd σ a u nl s k)) = nI (nd σ a u nl s (k + 1)) := by
      rw [nd_s]; exact vp_nI (h.1.2.2 _ f1).2.1 (by omega)
    obtain ⟨m, hm⟩ : ∃ m, 12 - k = m + 1 := ⟨11 - k, by omega⟩
    rw [hm, pt_find_rl32, ef, nI_clamp (by omega), e3, show 12 - (k + 1) = m by omega]
    rw [if_neg (fun q => by have := (nI_leI (by decide) (by omega)).mp q; omega), if_neg (fun q => nt (by rw [et] at q; exact (nI_eq (by omega) (by have := vp_in_lt h.2.2.2.2.2.2; omega)).mp q)), if_neg (vin_m1 (nI_vin f1 (by omega)) (n := nl) (by omega))]
    rfl
theorem rl_end (h : WF σ μ a b u v t nl nn) (a2 : a 2 = σ 2) (a3 : a 3 = σ 3) (a5 : a 5 = σ 5) (h0 : a 116 1 = nI 0) (hs : s < nn) (hF : bf_D a s < 1000000000) {S : Int32} : pt_find_rl32 σ nl S t u 12 0 a (nI s) = (cst σ a u nl s (bf_D a s % 16), nI (bf_D a s % 16)) := by
  have hn := h.1.2.1
  have r11 := (h.rest hs hF).1
  rw [rl_walk h a2 a3 a5 hs hF (S := S) (bf_D a s % 16) (Nat.le_refl _), h.te hs hF]
  generalize hk : bf_D a s % 16 = k at *
  have et : t = nI t.toNatClampNeg := vp_nI h.2.2.2.2.2.2 (by omega)
  obtain ⟨m, hm⟩ : ∃ m, 12 - k = m + 1 := ⟨11 - k, by omega⟩
  rw [hm, pt_find_rl32, cst_len h0, ← et]
  by_cases q : nI 11 ≤ nI k
  · rw [if_pos q]
  · rw [if_neg q, if_pos rfl]
/-! the reference's walk -/
noncomputable def rst (σ a b : pr_I) (u : Int32) (nl s : Nat) : Nat → pr_I
  | 0 => pr_up b 0 17 (0 : Int32)
  | k + 1 => pr_up (pr_up (rst σ a b u nl s k) 10 k (nI (nxl σ a u nl (nd σ a u nl s k)))) 0 17 (nI (k + 1))
theorem rst_s {k : Nat} : rst σ a b u nl s (k + 1) = pr_up (pr_up (rst σ a b u nl s k) 10 k (nI (nxl σ a u nl (nd σ a u nl s k)))) 0 17 (nI (k + 1)) := rfl
theorem rst_r {o : Nat} (h1 : o ≠ 0) (h2 : o ≠ 10) : ∀ k, rst σ a b u nl s k o = b o
  | 0 => pr_up_ne h1
  | k + 1 => by rw [rst_s, pr_up_ne h1, pr_up_ne h2]; exact rst_r h1 h2 k
theorem rst_10 : ∀ k p, p < k → rst σ a b u nl s k 10 p = nI (nxl σ a u nl (nd σ a u nl s p))
  | 0, _, h => absurd h (by omega)
  | k + 1, p, h => by
    rw [rst_s, pr_upv (by decide)]
    by_cases q : p = k
    · rw [q, pr_upe]
    · rw [pr_upk q]; exact rst_10 k p (by omega)
theorem rst_len : ∀ k, rst σ a b u nl s k 0 17 = nI k
  | 0 => by show pr_up b 0 17 (0 : Int32) 0 17 = _; rw [pr_upe]; rfl
  | k + 1 => by rw [rst_s, pr_upe]
theorem it27_walk (h : WF σ μ a b u v t nl nn) (hb : b = m_lp μ t v) (b1 : b 1 = μ 1) (hs : s < nn) (hF : bf_D a s < 1000000000) : ∀ k, k ≤ bf_D a s % 16 → m_fi_it27 μ (nI s) t v k = (rst σ a b u nl s k, nI (nd σ a u nl s k))
  | 0, _ => by rw [hb]; rfl
  | k + 1, hk => by
    have hn := h.1.2.1
    have hl := h.1.1
    have r11 := (h.rest hs hF).1
    obtain ⟨w1, w2, w3, w4⟩ := h.way hs hF k (by omega)
    obtain ⟨nt, f⟩ := h.nt hs hF (k := k) (by omega)
    have f1 := f.1
    have et : t = nI t.toNatClampNeg := vp_nI h.2.2.2.2.2.2 (by omega)
    have ih := it27_walk h hb b1 hs hF k (by omega)
    have sc := (scan_e h (b' := rst σ a b u nl s k) ((rst_r (by decide) (by decide) k).trans b1) (rst_r (by decide) (by decide) k) (rst_r (by decide) (by decide) k) w1 w2 f (μ0 := μ) (s := nI s) (t' := t) (k := k)).1
    have e3 : μ 1 (96 + 7 * nxl σ a u nl (nd σ a u nl s k) + 1) = nI (nd σ a u nl s (k + 1)) := by
      rw [nd_s, ← (h.1.2.2 _ f1).2.2.2.2.1]; exact vp_nI (h.1.2.2 _ f1).2.1 (by omega)
    rw [m_fi_it27, ih]
    refine (if_neg (fun q => nt (by
      have q2 : nI (nd σ a u nl s k) = t := q
      rw [et] at q2; exact (nI_eq (by omega) (by have := vp_in_lt h.2.2.2.2.2.2; omega)).mp q2))).trans ?_
    show (pr_up (pr_up (rst σ a b u nl s k) 10 ((rst σ a b u nl s k 0 17).toNatClampNeg) (m_fi_it36 μ (rst σ a b u nl s k) (nI s) t v k (nI (nd σ a u nl s k)) (sl 23))) 0 17 ((rst σ a b u nl s k 0 17) + (1 : Int32)), μ 1 (96 + 7 * (m_fi_it36 μ (rst σ a b u nl s k) (nI s) t v k (nI (nd σ a u nl s k)) (sl 23)).toNatClampNeg + 1)) = _
    rw [sc, rst_len, nI_clamp (by omega), nI_clamp (by omega), e3, nI_1, rst_s]
theorem it27_end (h : WF σ μ a b u v t nl nn) (hb : b = m_lp μ t v) (b1 : b 1 = μ 1) (hs : s < nn) (hF : bf_D a s < 1000000000) {k : Nat} (hk : bf_D a s % 16 ≤ k) : m_fi_it27 μ (nI s) t v k = (rst σ a b u nl s (bf_D a s % 16), t) := by
  have hn := h.1.2.1
  have e := it27_walk h hb b1 hs hF (bf_D a s % 16) (Nat.le_refl _)
  have et : t = nI t.toNatClampNeg := vp_nI h.2.2.2.2.2.2 (by omega)
  rw [h.te hs hF, ← et] at e
  have st := st_m_fi_it27_30 (σ := μ) (s := nI s) (t := t) (u := v) (k := bf_D a s % 16) (by rw [e]) (k - bf_D a s % 16)
  rw [show bf_D a s % 16 + (k - bf_D a s % 16) = k by omega] at st
  rw [st, e]
end WAY
