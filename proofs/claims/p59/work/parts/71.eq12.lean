/-! LABELS OF BOTH: the class' distance is sixteen times the price and the steps -/
theorem vp_rng {x : Int32} {n : Nat} (h0 : 0 ≤ x.toInt) (h1 : x.toInt ≤ n) : vp_in x (n + 1) := fun q => by
  rcases q with q | q
  · rw [Int32.lt_iff_toInt_lt, show (0 : Int32).toInt = 0 from rfl] at q; omega
  · have : x.toNatClampNeg = x.toInt.toNat := rfl
    omega
def bf_al (u : Int32) (k : Nat) : Prop := ¬ ((u >>> (nI k &&& 31)) &&& 1) = 0
def bf_f (σ : pr_I) (k : Nat) : Nat := (σ 2 k).toNatClampNeg
def bf_g (σ : pr_I) (k : Nat) : Nat := (σ 3 k).toNatClampNeg
def bf_w (σ : pr_I) (k : Nat) : Nat := 16 * (σ 5 k).toNatClampNeg + 1
def bf_D (a : pr_I) (x : Nat) : Nat := (a 118 x).toNatClampNeg
/-- known ends and prices of the links, on both sides -/
def BL (σ μ : pr_I) (nl nn : Nat) : Prop := nl ≤ 24 ∧ nn ≤ 12 ∧ ∀ k, k < nl → vp_in (σ 2 k) nn ∧ vp_in (σ 3 k) nn ∧ vp_in (σ 5 k) 1001 ∧ σ 2 k = μ 1 (96 + 7 * k + 0) ∧ σ 3 k = μ 1 (96 + 7 * k + 1) ∧ σ 5 k = μ 1 (96 + 7 * k + 3)
def LSb (nn : Nat) (a b : pr_I) : Prop := (∀ x, x < nn → (a 118 x = nI 1000000000 ∧ b 8 x = nI 1000000000) ∨ ∃ P S, a 118 x = nI (16 * P + S) ∧ b 8 x = nI P ∧ b 9 x = nI S ∧ P ≤ 1000 * S ∧ S ≤ cn (fun y => decide (bf_D a y < 16 * P + S)) 12) ∧ ∀ x, nn ≤ x → x < 12 → a 118 x = nI 1000000000
theorem cn_11 {p : Nat → Bool} {v : Nat} (hv : v < 12) (h : ¬ p v = true) : cn p 12 ≤ 11 := by
  have := cn_lt (p := p) (q := fun _ => true) (b := v) 12 (fun _ _ _ => rfl) hv h rfl
  have := cn_le (p := fun _ => true) 12
  omega
theorem LSb.fin {nn x P S : Nat} {a : pr_I} (hx : x < 12) (e : a 118 x = nI (16 * P + S)) (hP : P ≤ 1000 * S) (hS : S ≤ cn (fun y => decide (bf_D a y < 16 * P + S)) 12) (hs : S ≤ 12) : S ≤ 11 ∧ bf_D a x = 16 * P + S := by
  have d : bf_D a x = 16 * P + S := by unfold bf_D; rw [e, nI_clamp (by omega)]
  refine ⟨Nat.le_trans hS (cn_11 hx (fun q => ?_)), d⟩
  have q1 : bf_D a x < 16 * P + S := of_decide_eq_true q
  omega
theorem cn_12 {p : Nat → Bool} {S : Nat} (h : S ≤ cn p 12) : S ≤ 12 := Nat.le_trans h (cn_le 12)
theorem LSb.at {nn x : Nat} {a b : pr_I} (h : LSb nn a b) (hx : x < nn) (hn : nn ≤ 12) : (a 118 x = nI 1000000000 ∧ b 8 x = nI 1000000000 ∧ bf_D a x = 1000000000) ∨ ∃ P S, a 118 x = nI (16 * P + S) ∧ b 8 x = nI P ∧ b 9 x = nI S ∧ P ≤ 1000 * S ∧ S ≤ 11 ∧ bf_D a x = 16 * P + S ∧ S ≤ cn (fun y => decide (bf_D a y < 16 * P + S)) 12 := by
  rcases h.1 x hx with ⟨a1, a2⟩ | ⟨P, S, a1, a2, a3, a4, a5⟩
  · exact Or.inl ⟨a1, a2, by unfold bf_D; rw [a1, nI_clamp (by decide)]⟩
  · have := LSb.fin (nn := nn) (by omega) a1 a4 a5 (cn_12 a5)
    exact Or.inr ⟨P, S, a1, a2, a3, a4, this.1, this.2, a5⟩
theorem LSb.le {nn x : Nat} {a b : pr_I} (h : LSb nn a b) (hx : x < 12) (hn : nn ≤ 12) : bf_D a x ≤ 1000000000 ∧ a 118 x = nI (bf_D a x) := by
  by_cases q : x < nn
  · rcases h.at q hn with ⟨a1, _, a3⟩ | ⟨P, S, a1, _, _, a4, a5, a6, _⟩
    · rw [a3]; exact ⟨Nat.le_refl _, a1⟩
    · rw [a6]; exact ⟨by omega, a1⟩
  · have := h.2 x (by omega) hx
    have e : bf_D a x = 1000000000 := by unfold bf_D; rw [this, nI_clamp (by decide)]
    rw [e]; exact ⟨Nat.le_refl _, this⟩
/-- the class' and the reference's sight of one link -/
theorem LSb.step {σ μ a b : pr_I} {nl nn j : Nat} (B : BL σ μ nl nn) (h : LSb nn a b) (hb1 : b 1 = μ 1) (hj : j < nl) :
    ((bf_D a (bf_g σ j) + bf_w σ j < bf_D a (bf_f σ j) ∧ ¬ (a 118 (bf_f σ j) ≤ a 118 (bf_g σ j) + σ 5 j * (16 : Int32) + 1) ∧ ¬ m_sh_r b j = 0 ∧ LSb nn (pr_up a 118 (bf_f σ j) (a 118 (bf_g σ j) + σ 5 j * (16 : Int32) + 1)) (pr_up (pr_up b 8 (bf_f σ j) (b 8 (bf_g σ j) + σ 5 j)) 9 (bf_f σ j) (b 9 (bf_g σ j) + 1)) ∧ ∀ x, bf_D (pr_up a 118 (bf_f σ j) (a 118 (bf_g σ j) + σ 5 j * (16 : Int32) + 1)) x = if x = bf_f σ j then bf_D a (bf_g σ j) + bf_w σ j else bf_D a x)
    ∨ (bf_D a (bf_f σ j) ≤ bf_D a (bf_g σ j) + bf_w σ j ∧ (a 118 (bf_f σ j) ≤ a 118 (bf_g σ j) + σ 5 j * (16 : Int32) + 1) ∧ m_sh_r b j = 0)) := by
  obtain ⟨hl24, hn, BB⟩ := B
  obtain ⟨v2, v3, v5, e2, e3, e5⟩ := BB j hj
  have hf : bf_f σ j < nn := vp_in_lt v2
  have hg : bf_g σ j < nn := vp_in_lt v3
  have hp : σ 5 j = nI (σ 5 j).toNatClampNeg := vp_nI v5 (by decide)
  have hp1 := vp_in_lt v5
  have hw : bf_w σ j = 16 * (σ 5 j).toNatClampNeg + 1 := rfl
  obtain ⟨lf1, lf2⟩ := h.le (x := bf_f σ j) (by omega) hn
  obtain ⟨lg1, lg2⟩ := h.le (x := bf_g σ j) (by omega) hn
  have eN : a 118 (bf_g σ j) + σ 5 j * (16 : Int32) + 1 = nI (bf_D a (bf_g σ j) + bf_w σ j) := by
    rw [lg2, hp]
    have := nI_lin (bf_D a (bf_g σ j)) (σ 5 j).toNatClampNeg 16 1
    refine this.trans ?_
    rw [hw]; congr 1; omega
  have cl : (a 118 (bf_f σ j) ≤ a 118 (bf_g σ j) + σ 5 j * (16 : Int32) + 1) ↔ bf_D a (bf_f σ j) ≤ bf_D a (bf_g σ j) + bf_w σ j := by
    rw [eN, lf2]
    exact nI_leI (by omega) (by omega)
  have eM : m_sh_r b j = (if b 8 (bf_g σ j) = (1000000000 : Int32) then (0 : Int32) else (if (b 8 (bf_g σ j) + σ 5 j) < b 8 (bf_f σ j) then (1 : Int32) else (if (b 8 (bf_g σ j) + σ 5 j) = b 8 (bf_f σ j) then (if (b 9 (bf_f σ j)) ≤ (b 9 (bf_g σ j)) + (1 : Int32) then (0 : Int32) else (1 : Int32)) else (0 : Int32)))) := by
    unfold m_sh_r bf_f bf_g
    rw [hb1, e2, e3, e5]
  have up : ∀ x, bf_D (pr_up a 118 (bf_f σ j) (a 118 (bf_g σ j) + σ 5 j * (16 : Int32) + 1)) x = if x = bf_f σ j then bf_D a (bf_g σ j) + bf_w σ j else bf_D a x := fun x => by
    unfold bf_D
    by_cases q : x = bf_f σ j
    · rw [if_pos q, q, pr_upe, eN, nI_clamp (by omega)]; rfl
    · rw [if_neg q, pr_upk q]
  rcases h.at hg hn with ⟨g1, g2, g3⟩ | ⟨P', S', g1, g2, g3, g4, g5, g6, g7⟩
  · refine Or.inr ⟨by omega, cl.mpr (by omega), ?_⟩
    rw [eM, if_pos (show b 8 (bf_g σ j) = (1000000000 : Int32) from g2)]
  have ng : ¬ b 8 (bf_g σ j) = (1000000000 : Int32) := by
    intro q
    have q2 : nI P' = nI 1000000000 := g2.symm.trans q
    have := (nI_eq (by omega) (by decide)).mp q2
    omega
  have eA : b 8 (bf_g σ j) + σ 5 j = nI (P' + (σ 5 j).toNatClampNeg) := by rw [g2, hp]; exact (nI_add _ _).trans (by rw [← hp])
  have eB : b 9 (bf_g σ j) + 1 = nI (S' + 1) := by rw [g3]; exact nI_1 _
  rw [eM, if_neg ng, eA, eB]
  have new : bf_D a (bf_g σ j) + bf_w σ j < bf_D a (bf_f σ j) → LSb nn (pr_up a 118 (bf_f σ j) (a 118 (bf_g σ j) + σ 5 j * (16 : Int32) + 1)) (pr_up (pr_up b 8 (bf_f σ j) (nI (P' + (σ 5 j).toNatClampNeg))) 9 (bf_f σ j) (nI (S' + 1))) := by
    intro lt
    have hnew : bf_D a (bf_g σ j) + bf_w σ j = 16 * (P' + (σ 5 j).toNatClampNeg) + (S' + 1) := by rw [g6, hw]; omega
    refine ⟨fun x hx => ?_, fun x h1 h2 => ?_⟩
    · by_cases q : x = bf_f σ j
      · refine Or.inr ⟨P' + (σ 5 j).toNatClampNeg, S' + 1, ?_, ?_, ?_, by omega, ?_⟩
        · rw [q, pr_upe, eN, hnew]
        · rw [q, pr_upv (by decide), pr_upe]
        · rw [q, pr_upe]
        · refine Nat.le_trans (Nat.succ_le_succ g7) (cn_lt (b := bf_g σ j) 12 (fun y hy z => ?_) (by omega) (fun z => ?_) ?_)
          · have z1 : bf_D a y < 16 * P' + S' := of_decide_eq_true z
            refine decide_eq_true ?_
            rw [up y]
            split
            · rename_i e; rw [e] at z1; omega
            · omega
          · have z1 : bf_D a (bf_g σ j) < 16 * P' + S' := of_decide_eq_true z
            omega
          · refine decide_eq_true ?_
            rw [up, if_neg (fun z => by rw [z] at lt; omega)]; omega
      · rcases h.1 x hx with ⟨a1, a2⟩ | ⟨P, S, a1, a2, a3, a4, a5⟩
        · exact Or.inl ⟨by rw [pr_upk q]; exact a1, by rw [pr_upv (by decide), pr_upk q]; exact a2⟩
        · refine Or.inr ⟨P, S, by rw [pr_upk q]; exact a1, by rw [pr_upv (by decide), pr_upk q]; exact a2, by rw [pr_upk q, pr_upv (by decide)]; exact a3, a4, Nat.le_trans a5 (cn_mono 12 (fun y hy z => ?_))⟩
          have z1 : bf_D a y < 16 * P + S := of_decide_eq_true z
          refine decide_eq_true ?_
          rw [up y]
          split
          · rename_i e; rw [e] at z1; omega
          · exact z1
    · have q : x ≠ bf_f σ j := by omega
      rw [pr_upk q]; exact h.2 x h1 h2
  rcases h.at hf hn with ⟨f1, f2, f3⟩ | ⟨P, S, f1, f2, f3, f4, f5, f6, f7⟩
  · have lt : bf_D a (bf_g σ j) + bf_w σ j < bf_D a (bf_f σ j) := by omega
    refine Or.inl ⟨lt, fun z => by have := cl.mp z; omega, ?_, new lt, up⟩
    rw [f2, if_pos ((nI_ltI (by omega) (by decide)).mpr (by omega))]; decide
  · rw [f2, f3]
    by_cases c1 : P' + (σ 5 j).toNatClampNeg < P
    · have lt : bf_D a (bf_g σ j) + bf_w σ j < bf_D a (bf_f σ j) := by omega
      refine Or.inl ⟨lt, fun z => by have := cl.mp z; omega, ?_, new lt, up⟩
      rw [if_pos ((nI_ltI (by omega) (by omega)).mpr c1)]; decide
    · rw [if_neg (fun z => c1 ((nI_ltI (by omega) (by omega)).mp z))]
      by_cases c2 : P' + (σ 5 j).toNatClampNeg = P
      · rw [if_pos (show nI (P' + (σ 5 j).toNatClampNeg) = nI P by rw [c2])]
        by_cases c3 : S ≤ S' + 1
        · rw [if_pos ((nI_leI (by omega) (by omega)).mpr c3)]
          exact Or.inr ⟨by omega, cl.mpr (by omega), rfl⟩
        · rw [if_neg (fun z => c3 ((nI_leI (by omega) (by omega)).mp z))]
          have lt : bf_D a (bf_g σ j) + bf_w σ j < bf_D a (bf_f σ j) := by omega
          exact Or.inl ⟨lt, fun z => by have := cl.mp z; omega, by decide, new lt, up⟩
      · rw [if_neg (fun z => c2 ((nI_eq (by omega) (by omega)).mp z))]
        exact Or.inr ⟨by omega, cl.mpr (by omega), rfl⟩
