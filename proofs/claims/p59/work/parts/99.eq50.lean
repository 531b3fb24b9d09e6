/-! REACHED JUST WHERE THERE IS A WAY: the class' reached nodes against the reference's search -/
section RF
variable {σ μ : pr_I}
theorem r32_s {nl : Nat} {s w x x5 : Int32} {k j : Nat} : pt_reach_it32 σ σ nl s w k x x5 (j + 1) = (pt_reach_it32 σ σ nl s w k x x5 j ||| (if (if ((w >>> ((nI j) &&& 31)) &&& (1 : Int32)) = 0 then (0 : Int32) else (if (((pt_reach_it32 σ σ nl s w k x x5 j) >>> ((σ 2 j) &&& 31)) &&& (1 : Int32)) = 0 then (0 : Int32) else (1 : Int32))) = 0 then (0 : Int32) else ((1 : Int32) <<< ((σ 3 j) &&& 31)))) := by
  rw [pt_reach_it32]
theorem r32_k {nl : Nat} {s w x x5 x6 : Int32} {k k' : Nat} : ∀ j, pt_reach_it32 σ σ nl s w k x x5 j = pt_reach_it32 σ σ nl s w k' x x6 j
  | 0 => rfl
  | j + 1 => by rw [r32_s, r32_s, r32_k (k := k) (k' := k') (x5 := x5) (x6 := x6) j]
theorem r32_bit {nn nl : Nat} (B : BL σ μ nl nn) {s w x x5 : Int32} {k j i : Nat} (hj : j < nl) (hi : i < 32) : bit (pt_reach_it32 σ σ nl s w k x x5 (j + 1)) i = (bit (pt_reach_it32 σ σ nl s w k x x5 j) i || (decide (i = bf_g σ j) && (bit w j && bit (pt_reach_it32 σ σ nl s w k x x5 j) (bf_f σ j)))) := by
  have hn := B.2.1
  have hl := B.1
  obtain ⟨v2, v3, _⟩ := B.2.2 j hj
  have l2 : bf_f σ j < nn := vp_in_lt v2
  have l3 : bf_g σ j < nn := vp_in_lt v3
  have f2 : σ 2 j = nI (bf_f σ j) := vp_nI v2 (by omega)
  have f3 : σ 3 j = nI (bf_g σ j) := vp_nI v3 (by omega)
  have z1 : ¬ (1 : Int32) = 0 := by decide
  rw [r32_s, bit_or, f2, f3, bit_eq (show j < 32 by omega), bit_eq (show bf_f σ j < 32 by omega)]
  generalize pt_reach_it32 σ σ nl s w k x x5 j = y
  cases bit w j <;> cases bit y (bf_f σ j) <;> simp [z1, bit_0, bit_sh1 (show bf_g σ j < 32 by omega) hi]
theorem r32_mono {nn nl : Nat} (B : BL σ μ nl nn) {s w x x5 : Int32} {k i d : Nat} (hi : i < 32) : ∀ j, d ≤ j → j ≤ nl → bit (pt_reach_it32 σ σ nl s w k x x5 d) i = true → bit (pt_reach_it32 σ σ nl s w k x x5 j) i = true
  | 0, h, _, q => by rw [show d = 0 by omega] at q; exact q
  | j + 1, h, hj, q => by
    by_cases e : d = j + 1
    · rw [e] at q; exact q
    · rw [r32_bit B (by omega) hi, r32_mono B hi j (by omega) (by omega) q]; rfl
/-- bits behind the nodes stay -/
theorem r32_hi {nn nl : Nat} (B : BL σ μ nl nn) {s w x x5 : Int32} {k i : Nat} (hi : i < 32) (hn : nn ≤ i) : ∀ j, j ≤ nl → bit (pt_reach_it32 σ σ nl s w k x x5 j) i = bit x i
  | 0, _ => rfl
  | j + 1, hj => by
    have l3 : bf_g σ j < nn := vp_in_lt (B.2.2 j (by omega)).2.1
    rw [r32_bit B (by omega) hi, r32_hi B hi hn j (by omega), decide_eq_false (show ¬ i = bf_g σ j by omega)]
    simp
theorem r32_ind {nn nl : Nat} (B : BL σ μ nl nn) {s w x x5 : Int32} {k : Nat} {P : Nat → Prop} (hP : ∀ j, j < nl → bit w j = true → P (bf_f σ j) → P (bf_g σ j)) (h0 : ∀ i, i < 32 → bit x i = true → P i) : ∀ j, j ≤ nl → ∀ i, i < 32 → bit (pt_reach_it32 σ σ nl s w k x x5 j) i = true → P i
  | 0, _, i, hi, q => h0 i hi q
  | j + 1, hj, i, hi, q => by
    have ih := r32_ind B hP h0 (s := s) (x5 := x5) (k := k) j (by omega)
    have hn := B.2.1
    have l2 : bf_f σ j < nn := vp_in_lt (B.2.2 j (by omega)).1
    rw [r32_bit B (by omega) hi] at q
    rcases (Bool.or_eq_true _ _).mp q with q | q
    · exact ih i hi q
    · have q1 := (Bool.and_eq_true _ _).mp q
      have q2 := (Bool.and_eq_true _ _).mp q1.2
      rw [of_decide_eq_true q1.1]
      exact hP j (by omega) q2.1 (ih _ (by omega) q2.2)
theorem r11_s {nl : Nat} {s w : Int32} {k : Nat} : pt_reach_it11 σ nl s w (k + 1) = (if ((pt_reach_it11 σ nl s w k).1) = ((pt_reach_it11 σ nl s w k).2) then (pt_reach_it11 σ nl s w k) else ((pt_reach_it32 σ σ nl s w k ((pt_reach_it11 σ nl s w k).1) ((pt_reach_it11 σ nl s w k).1) nl), ((pt_reach_it11 σ nl s w k).1))) := re11_s
theorem r11_all {nn nl s : Nat} {w : Int32} (B : BL σ μ nl nn) (hs : s < nn) : ∀ k, (∀ i, nn ≤ i → i < 32 → bit (pt_reach_it11 σ nl (nI s) w k).1 i = false) ∧ bit (pt_reach_it11 σ nl (nI s) w k).1 s = true ∧ ((pt_reach_it11 σ nl (nI s) w k).1 = (pt_reach_it11 σ nl (nI s) w k).2 → pt_reach_it32 σ σ nl (nI s) w 0 (pt_reach_it11 σ nl (nI s) w k).1 0 nl = (pt_reach_it11 σ nl (nI s) w k).1) ∧ (k + 1 ≤ cn (fun i => bit (pt_reach_it11 σ nl (nI s) w k).1 i) nn ∨ (pt_reach_it11 σ nl (nI s) w k).1 = (pt_reach_it11 σ nl (nI s) w k).2)
  | 0 => by
    have hn := B.2.1
    have e : (pt_reach_it11 σ nl (nI s) w 0).1 = (1 : Int32) <<< (nI s &&& 31) := rfl
    have e2 : (pt_reach_it11 σ nl (nI s) w 0).2 = 0 := rfl
    rw [e, e2]
    have b1 : bit ((1 : Int32) <<< (nI s &&& 31)) s = true := by rw [bit_sh1 (by omega) (by omega)]; exact decide_eq_true rfl
    refine ⟨fun i h1 h2 => by rw [bit_sh1 (by omega) h2]; exact decide_eq_false (by omega), b1, fun z => absurd z (sh_ne0 (by omega)), Or.inl ?_⟩
    have := cn_lt (p := fun _ => false) (q := fun i => bit ((1 : Int32) <<< (nI s &&& 31)) i) (b := s) nn (fun _ _ h => absurd h (by decide)) hs (by decide) b1
    omega
  | k + 1 => by
    have hn := B.2.1
    obtain ⟨i1, i2, i3, i4⟩ := r11_all (w := w) B hs k
    rw [r11_s]
    by_cases c : (pt_reach_it11 σ nl (nI s) w k).1 = (pt_reach_it11 σ nl (nI s) w k).2
    · rw [if_pos c]
      exact ⟨i1, i2, i3, Or.inr c⟩
    · rw [if_neg c]
      have i4' := i4.resolve_right c
      generalize (pt_reach_it11 σ nl (nI s) w k).1 = y at *
      have m : ∀ i, i < 32 → bit y i = true → bit (pt_reach_it32 σ σ nl (nI s) w k y y nl) i = true := fun i hi q => r32_mono B (d := 0) hi nl (by omega) (Nat.le_refl _) q
      have hh : ∀ i, nn ≤ i → i < 32 → bit (pt_reach_it32 σ σ nl (nI s) w k y y nl) i = bit y i := fun i h1 h2 => r32_hi B h2 h1 nl (Nat.le_refl _)
      show (∀ i, nn ≤ i → i < 32 → bit (pt_reach_it32 σ σ nl (nI s) w k y y nl) i = false) ∧ bit (pt_reach_it32 σ σ nl (nI s) w k y y nl) s = true ∧ ((pt_reach_it32 σ σ nl (nI s) w k y y nl) = y → pt_reach_it32 σ σ nl (nI s) w 0 (pt_reach_it32 σ σ nl (nI s) w k y y nl) 0 nl = (pt_reach_it32 σ σ nl (nI s) w k y y nl)) ∧ (k + 1 + 1 ≤ cn (fun i => bit (pt_reach_it32 σ σ nl (nI s) w k y y nl) i) nn ∨ (pt_reach_it32 σ σ nl (nI s) w k y y nl) = y)
      refine ⟨fun i h1 h2 => (hh i h1 h2).trans (i1 i h1 h2), m s (by omega) i2, fun z => ?_, ?_⟩
      · rw [z]
        exact (r32_k (k := 0) (k' := k) (x5 := 0) (x6 := y) nl).trans z
      · by_cases c2 : pt_reach_it32 σ σ nl (nI s) w k y y nl = y
        · exact Or.inr c2
        · refine Or.inl ?_
          have ex : ∃ i, i < nn ∧ ¬ bit y i = true ∧ bit (pt_reach_it32 σ σ nl (nI s) w k y y nl) i = true := by
            refine Classical.byContradiction (fun v => c2 (bit_ext (fun i hi => ?_)))
            by_cases q : i < nn
            · cases e1 : bit y i
              · cases e2 : bit (pt_reach_it32 σ σ nl (nI s) w k y y nl) i
                · rfl
                · exact absurd ⟨i, q, by rw [e1]; decide, e2⟩ v
              · exact m i hi e1
            · exact hh i (by omega) hi
          obtain ⟨i, a, b, d⟩ := ex
          have := cn_lt (p := fun i => bit y i) (q := fun i => bit (pt_reach_it32 σ σ nl (nI s) w k y y nl) i) (b := i) nn (fun x hx h => m x (by omega) h) a b d
          omega
/-- what is reached: the source, and over each allowed link -/
theorem reach_clo {nn nl s : Nat} {w : Int32} (B : BL σ μ nl nn) (hs : s < nn) : bit (pt_reach_r σ nl (nI s) w) s = true ∧ ∀ j, j < nl → bit w j = true → bit (pt_reach_r σ nl (nI s) w) (bf_f σ j) = true → bit (pt_reach_r σ nl (nI s) w) (bf_g σ j) = true := by
  have hn := B.2.1
  obtain ⟨_, i2, i3, i4⟩ := r11_all (w := w) B hs 12
  unfold pt_reach_r
  rw [sl_eq 12]
  have c := i4.resolve_left (fun q => by
    have := cn_le (p := fun i => bit (pt_reach_it11 σ nl (nI s) w 12).1 i) nn
    omega)
  have f := i3 c
  generalize (pt_reach_it11 σ nl (nI s) w 12).1 = y at *
  refine ⟨i2, fun j hj hw hf => ?_⟩
  have l2 : bf_f σ j < nn := vp_in_lt (B.2.2 j hj).1
  have l3 : bf_g σ j < nn := vp_in_lt (B.2.2 j hj).2.1
  have y1 : bit (pt_reach_it32 σ σ nl (nI s) w 0 y 0 j) (bf_f σ j) = true := r32_mono B (d := 0) (by omega) j (by omega) (by omega) hf
  have y2 : bit (pt_reach_it32 σ σ nl (nI s) w 0 y 0 (j + 1)) (bf_g σ j) = true := by
    rw [r32_bit B hj (by omega), hw, y1, decide_eq_true rfl]; simp
  have y3 := r32_mono B (show bf_g σ j < 32 by omega) nl (show j + 1 ≤ nl by omega) (Nat.le_refl _) y2
  rw [f] at y3
  exact y3
theorem reach_ind {nn nl s : Nat} {w : Int32} (B : BL σ μ nl nn) (hs : s < nn) {P : Nat → Prop} (hP : ∀ j, j < nl → bit w j = true → P (bf_f σ j) → P (bf_g σ j)) (h0 : P s) : ∀ i, i < 32 → bit (pt_reach_r σ nl (nI s) w) i = true → P i := by
  have hn := B.2.1
  have A : ∀ k i, i < 32 → bit (pt_reach_it11 σ nl (nI s) w k).1 i = true → P i := by
    intro k
    induction k with
    | zero =>
      intro i hi q
      have q2 : bit ((1 : Int32) <<< (nI s &&& 31)) i = true := q
      rw [bit_sh1 (by omega) hi] at q2
      rw [of_decide_eq_true q2]; exact h0
    | succ k ih =>
      intro i hi q
      rw [r11_s] at q
      by_cases c : (pt_reach_it11 σ nl (nI s) w k).1 = (pt_reach_it11 σ nl (nI s) w k).2
      · rw [if_pos c] at q; exact ih i hi q
      · rw [if_neg c] at q
        exact r32_ind B hP ih nl (Nat.le_refl _) i hi q
  unfold pt_reach_r
  exact A _
/-- a way over allowed links -/
def Pth (σ : pr_I) (u : Int32) (nl s t n : Nat) (ls np : Nat → Nat) : Prop := np 0 = s ∧ np n = t ∧ ∀ p, p < n → ls p < nl ∧ bit u (ls p) = true ∧ bf_f σ (ls p) = np p ∧ bf_g σ (ls p) = np (p + 1)
theorem pth_reach {nn nl s t n : Nat} {u : Int32} {ls np : Nat → Nat} (B : BL σ μ nl nn) (hs : s < nn) (h : Pth σ u nl s t n ls np) : bit (pt_reach_r σ nl (nI s) u) t = true := by
  obtain ⟨c1, c2⟩ := reach_clo (w := u) B hs
  obtain ⟨h1, h2, h3⟩ := h
  have A : ∀ p, p ≤ n → bit (pt_reach_r σ nl (nI s) u) (np p) = true := by
    intro p
    induction p with
    | zero => intro _; rw [h1]; exact c1
    | succ p ih =>
      intro hp
      obtain ⟨a, b, c, d⟩ := h3 p (by omega)
      rw [← d]
      exact c2 _ a b (by rw [c]; exact ih (by omega))
  rw [← h2]
  exact A n (Nat.le_refl _)
theorem fi_pth {nn nl s t : Nat} {u v : Int32} (B : BL σ μ nl nn) (hu : HU u v nl) (hs : s < nn) (ht : t < nn) (hl : mln μ = nl) (hnn : mnn μ = nn) (h : ¬ m_fi_r μ (nI s) (nI t) v = 0) : ∃ n ls np, Pth σ u nl s t n ls np := by
  have hn := B.2.1
  have h24 := B.1
  have M := meas B hu (nI_vin ht (by omega)) hl hnn
  have W : WF σ μ (pt_meas σ nl (nI t) u) (m_lp μ (nI t) v) u v (nI t) nl nn := ⟨B, hu, M.1, M.2.2.2.1, M.2.2.2.2.1, M.2.2.2.2.2, nI_vin ht (by omega)⟩
  unfold m_fi_r at h
  rw [nI_clamp (by omega)] at h
  rcases W.2.2.1.at hs hn with ⟨q1, q2, q3⟩ | ⟨P, S, q1, q2, q3, q4, q5, q6, _⟩
  · exact absurd (if_pos q2) h
  · have hF : bf_D (pt_meas σ nl (nI t) u) s < 1000000000 := by omega
    refine ⟨bf_D (pt_meas σ nl (nI t) u) s % 16, fun p => nxl σ (pt_meas σ nl (nI t) u) u nl (nd σ (pt_meas σ nl (nI t) u) u nl s p), nd σ (pt_meas σ nl (nI t) u) u nl s, rfl, ?_, fun p hp => ?_⟩
    · rw [W.te hs hF, nI_clamp (by omega)]
    · obtain ⟨_, f1, f2, _⟩ := W.nt hs hF hp
      have f3 := (bf_bit (k := nxl σ (pt_meas σ nl (nI t) u) u nl (nd σ (pt_meas σ nl (nI t) u) u nl s p)) (by omega)).mp f2.1
      exact ⟨f1, f3, f2.2.1, nd_s.symm⟩
theorem reach_fi {nn nl s t : Nat} {u v : Int32} (B : BL σ μ nl nn) (hu : HU u v nl) (hs : s < nn) (ht : t < nn) (hl : mln μ = nl) (hnn : mnn μ = nn) : bit (pt_reach_r σ nl (nI s) u) t = true ↔ ¬ m_fi_r μ (nI s) (nI t) v = 0 := by
  constructor
  · intro q
    have hn := B.2.1
    have h24 := B.1
    have M := meas B hu (nI_vin ht (by omega)) hl hnn
    have W : WF σ μ (pt_meas σ nl (nI t) u) (m_lp μ (nI t) v) u v (nI t) nl nn := ⟨B, hu, M.1, M.2.2.2.1, M.2.2.2.2.1, M.2.2.2.2.2, nI_vin ht (by omega)⟩
    have e0 := W.2.2.2.2.2.1
    rw [nI_clamp (by omega)] at e0
    have P := reach_ind (w := u) B hs (P := fun x => bf_D (pt_meas σ nl (nI t) u) x < 1000000000 → bf_D (pt_meas σ nl (nI t) u) s < 1000000000) (fun j hj hw ih hg => ih (by
      have lg : bf_g σ j < nn := vp_in_lt (B.2.2 j hj).2.1
      have lp := vp_in_lt (B.2.2 j hj).2.2.1
      have fx := W.2.2.2.1 j hj ((bf_bit (by omega)).mpr hw)
      have hw2 : bf_w σ j = 16 * (σ 5 j).toNatClampNeg + 1 := rfl
      rcases W.2.2.1.at lg hn with ⟨_, _, q3⟩ | ⟨P, S, _, _, _, q4, q5, q6, _⟩
      · omega
      · omega)) (fun z => z) t (by omega) q (by rw [e0]; decide)
    unfold m_fi_r
    rw [nI_clamp (by omega)]
    rcases W.2.2.1.at hs hn with ⟨_, _, q3⟩ | ⟨P', S, q1, q2, q3, q4, q5, q6, _⟩
    · omega
    · rw [if_neg (fun z => by
        have z2 : nI P' = nI 1000000000 := q2.symm.trans z
        have := (nI_eq (by omega) (by decide)).mp z2
        omega)]
      decide
  · intro q
    obtain ⟨n, ls, np, p⟩ := fi_pth B hu hs ht hl hnn q
    exact pth_reach B hs p
end RF
