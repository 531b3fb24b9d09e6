/-! THE WAY OF BOTH: node by node the first tight link -/
/-- tight: an allowed link out of x on a cheapest way -/
def Gd (σ a : pr_I) (u : Int32) (x k : Nat) : Prop := bf_al u k ∧ bf_f σ k = x ∧ bf_D a (bf_g σ k) + bf_w σ k = bf_D a x
/-- what the rounds left -/
def WF (σ μ a b : pr_I) (u v t : Int32) (nl nn : Nat) : Prop := BL σ μ nl nn ∧ HU u v nl ∧ LSb nn a b ∧ (∀ k, k < nl → bf_al u k → bf_D a (bf_f σ k) ≤ bf_D a (bf_g σ k) + bf_w σ k) ∧ Tg (bf_al u) (bf_f σ) (bf_g σ) (bf_w σ) nl t.toNatClampNeg 1000000000 (bf_D a) ∧ bf_D a t.toNatClampNeg = 0 ∧ vp_in t nn
/-- the first tight one -/
def Fst (σ a : pr_I) (u : Int32) (nl x j : Nat) : Prop := j < nl ∧ Gd σ a u x j ∧ ∀ i, i < j → ¬ Gd σ a u x i
section WALK
variable {σ μ a b : pr_I} {u v t : Int32} {nl nn : Nat}
theorem WF.good (h : WF σ μ a b u v t nl nn) {x : Nat} (hx : x < nn) (hxt : x ≠ t.toNatClampNeg) (hF : bf_D a x < 1000000000) : ∃ j, Fst σ a u nl x j := by
  obtain ⟨B, hu, L, fx, tg, t0, ht⟩ := h
  obtain ⟨k, k1, k2, k3, k4⟩ := tg x (by have := B.2.1; omega) hxt hF
  have g : Gd σ a u x k := ⟨k2, k3, by have := fx k k1 k2; rw [k3] at this; omega⟩
  obtain ⟨j, j1, j2, j3⟩ := mn (fun k => k) (Gd σ a u x) nl ⟨k, k1, g⟩
  refine ⟨j, j1, j2, fun i hi q => ?_⟩
  have : j ≤ i := j3 i (by omega) q
  omega
theorem from_eq (B : BL σ μ nl nn) {x i : Nat} (hx : x < nn) (hi : i < nl) : σ 2 i = nI x ↔ bf_f σ i = x := by
  have hn := B.2.1
  have e := vp_nI (B.2.2 i hi).1 (by omega)
  have l := vp_in_lt (B.2.2 i hi).1
  unfold bf_f
  constructor
  · intro q; rw [q, nI_clamp (by omega)]
  · intro q; rw [e, q]
theorem sum_eq (B : BL σ μ nl nn) (L : LSb nn a b) {x i : Nat} (hx : x < nn) (hi : i < nl) : (a 118 (bf_g σ i) + σ 5 i * (16 : Int32) + 1 = a 118 x) ↔ bf_D a (bf_g σ i) + bf_w σ i = bf_D a x := by
  have hn := B.2.1
  obtain ⟨_, v3, v5, _⟩ := B.2.2 i hi
  have hg : bf_g σ i < nn := vp_in_lt v3
  have hp : σ 5 i = nI (σ 5 i).toNatClampNeg := vp_nI v5 (by decide)
  have hp1 := vp_in_lt v5
  have hw : bf_w σ i = 16 * (σ 5 i).toNatClampNeg + 1 := rfl
  obtain ⟨l1, l2⟩ := L.le (x := x) (by omega) hn
  obtain ⟨lg1, lg2⟩ := L.le (x := bf_g σ i) (by omega) hn
  have eN : a 118 (bf_g σ i) + σ 5 i * (16 : Int32) + 1 = nI (bf_D a (bf_g σ i) + bf_w σ i) := by
    rw [lg2, hp]
    have := nI_lin (bf_D a (bf_g σ i)) (σ 5 i).toNatClampNeg 16 1
    refine this.trans ?_
    rw [hw]; congr 1; omega
  rw [eN, l2]
  exact nI_eq (by omega) (by omega)
/-- the class' first link -/
theorem first_rl (B : BL σ μ nl nn) (L : LSb nn a b) {c : pr_I} (c2 : c 2 = σ 2) (c3 : c 3 = σ 3) (c5 : c 5 = σ 5) (c118 : c 118 = a 118) {x j : Nat} (hx : x < nn) (g : Fst σ a u nl x j) : ∀ fuel m, m ≤ j → j < m + fuel → pt_first_rl3 c nl (nI x) u fuel m = nI j
  | 0, m, h1, h2 => absurd h2 (by omega)
  | fuel + 1, m, h1, h2 => by
    have hn := B.2.1
    have hl := B.1
    have hj := g.1
    rw [pt_first_rl3, c2, c3, c5, c118, nI_clamp (show x < 2 ^ 31 by omega)]
    rw [if_neg (show ¬ nI nl ≤ nI m from fun q => by have := (nI_leI (by omega) (by omega)).mp q; omega)]
    by_cases e : m = j
    · subst e
      rw [if_neg g.2.1.1, if_pos ((from_eq B hx hj).mpr g.2.1.2.1)]
      exact if_pos ((sum_eq B L hx hj).mpr g.2.1.2.2)
    · have n := g.2.2 m (by omega)
      have ih := first_rl B L c2 c3 c5 c118 hx g fuel (m + 1) (by omega) (by omega)
      by_cases q1 : ((u >>> (nI m &&& 31)) &&& 1) = 0
      · rw [if_pos q1]; exact ih
      · rw [if_neg q1]
        by_cases q2 : σ 2 m = nI x
        · rw [if_pos q2]
          refine (if_neg (fun q => n ⟨q1, (from_eq B hx (by omega)).mp q2, (sum_eq B L hx (by omega)).mp q⟩)).trans ih
        · rw [if_neg q2]; exact ih
/-- the reference's sight of a tight link -/
theorem on_eq (B : BL σ μ nl nn) (L : LSb nn a b) {b' : pr_I} (b1 : b' 1 = μ 1) (b8 : b' 8 = b 8) (b9 : b' 9 = b 9) {x i : Nat} (hx : x < nn) (hF : bf_D a x < 1000000000) (hi : i < nl) : m_on_r b' i (nI x) = 0 ↔ ¬ (bf_f σ i = x ∧ bf_D a (bf_g σ i) + bf_w σ i = bf_D a x) := by
  have hn := B.2.1
  obtain ⟨v2, v3, v5, e2, e3, e5⟩ := B.2.2 i hi
  have hg : bf_g σ i < nn := vp_in_lt v3
  have hp : σ 5 i = nI (σ 5 i).toNatClampNeg := vp_nI v5 (by decide)
  have hp1 := vp_in_lt v5
  have hw : bf_w σ i = 16 * (σ 5 i).toNatClampNeg + 1 := rfl
  have eM : m_on_r b' i (nI x) = (if σ 2 i = nI x then (if b 8 (bf_g σ i) = (1000000000 : Int32) then (0 : Int32) else (if (b 8 (bf_g σ i) + σ 5 i) = b 8 x then (if (b 9 (bf_g σ i) + (1 : Int32)) = b 9 x then (1 : Int32) else (0 : Int32)) else (0 : Int32))) else (0 : Int32)) := by
    unfold m_on_r bf_g
    rw [b1, b8, b9, e2, e3, e5, nI_clamp (show x < 2 ^ 31 by omega)]
  rw [eM]
  have fe := from_eq B hx hi
  by_cases q : σ 2 i = nI x
  · rw [if_pos q]
    have q' := fe.mp q
    rcases L.at hg hn with ⟨g1, g2, g3⟩ | ⟨P', S', g1, g2, g3, g4, g5, g6, g7⟩
    · rw [if_pos (show b 8 (bf_g σ i) = (1000000000 : Int32) from g2)]
      exact ⟨fun _ z => by omega, fun _ => rfl⟩
    · have ng : ¬ b 8 (bf_g σ i) = (1000000000 : Int32) := by
        intro q
        have q2 : nI P' = nI 1000000000 := g2.symm.trans q
        have := (nI_eq (by omega) (by decide)).mp q2
        omega
      rcases L.at hx hn with ⟨_, _, f3⟩ | ⟨P, S, f1, f2, f3, f4, f5, f6, f7⟩
      · omega
      · have eA : b 8 (bf_g σ i) + σ 5 i = nI (P' + (σ 5 i).toNatClampNeg) := by rw [g2, hp]; exact (nI_add _ _).trans (by rw [← hp])
        have eB : b 9 (bf_g σ i) + 1 = nI (S' + 1) := by rw [g3]; exact nI_1 _
        rw [if_neg ng, eA, eB, f2, f3]
        by_cases z1 : P' + (σ 5 i).toNatClampNeg = P
        · rw [if_pos (show nI (P' + (σ 5 i).toNatClampNeg) = nI P by rw [z1])]
          by_cases z2 : S' + 1 = S
          · rw [if_pos (show nI (S' + 1) = nI S by rw [z2])]
            exact ⟨fun z => absurd z (by decide), fun z => absurd ⟨q', by omega⟩ z⟩
          · rw [if_neg (fun z => z2 ((nI_eq (by omega) (by omega)).mp z))]
            exact ⟨fun _ z => by omega, fun _ => rfl⟩
        · rw [if_neg (fun z => z1 ((nI_eq (by omega) (by omega)).mp z))]
          exact ⟨fun _ z => by omega, fun _ => rfl⟩
  · rw [if_neg q]
    exact ⟨fun _ z => q (fe.mpr z.1), fun _ => rfl⟩
/-- the reference's search for it -/
theorem scan (h : WF σ μ a b u v t nl nn) {b' : pr_I} (b1 : b' 1 = μ 1) (b8 : b' 8 = b 8) (b9 : b' 9 = b 9) {x j : Nat} (hx : x < nn) (hF : bf_D a x < 1000000000) (g : Fst σ a u nl x j) {μ0 : pr_I} {s t' : Int32} {k : Nat} : ∀ k1, m_fi_it36 μ0 b' s t' v k (nI x) k1 = nI (if k1 ≤ j then k1 else j)
  | 0 => by rw [if_pos (Nat.zero_le _)]; rfl
  | k1 + 1 => by
    have ih := scan h b1 b8 b9 hx hF g (μ0 := μ0) (s := s) (t' := t') (k := k) k1
    have hl := h.1.1
    have hj := g.1
    rw [m_fi_it36, ih]
    by_cases q : k1 < j
    · rw [if_pos (show k1 ≤ j by omega), if_pos (show k1 + 1 ≤ j by omega), nI_clamp (by omega), nI_inc]
      by_cases z : m_has_r b' v (nI k1) = 0
      · rw [if_pos z]
      · rw [if_neg z]
        refine if_pos ((on_eq h.1 h.2.2.1 b1 b8 b9 hx hF (by omega)).mpr (fun y => g.2.2 k1 q ⟨?_, y⟩))
        exact Classical.byContradiction (fun w => z ((h.2.1 k1 (by omega) b').mpr w))
    · have e : (if k1 ≤ j then k1 else j) = j := by split <;> omega
      rw [e, if_neg (show ¬ k1 + 1 ≤ j by omega), nI_clamp (by omega), if_neg (fun z => ((h.2.1 j hj b').mp z) g.2.1.1), if_neg (fun z => ((on_eq h.1 h.2.2.1 b1 b8 b9 hx hF hj).mp z) g.2.1.2)]
theorem scan_e (h : WF σ μ a b u v t nl nn) {b' : pr_I} (b1 : b' 1 = μ 1) (b8 : b' 8 = b 8) (b9 : b' 9 = b 9) {x j : Nat} (hx : x < nn) (hF : bf_D a x < 1000000000) (g : Fst σ a u nl x j) {μ0 : pr_I} {s t' : Int32} {k : Nat} : m_fi_it36 μ0 b' s t' v k (nI x) (sl 23) = nI j ∧ m_fi_it36_e μ0 b' s t' v k (nI x) (sl 23) = true := by
  have hl := h.1.1
  have hj := g.1
  have e : m_fi_it36 μ0 b' s t' v k (nI x) (sl 23) = nI j := by
    rw [scan h b1 b8 b9 hx hF g, sl_eq 23]
    congr 1
    split <;> omega
  refine ⟨e, ?_⟩
  unfold m_fi_it36_e
  rw [e, nI_clamp (by omega), if_neg (fun z => ((h.2.1 j hj b').mp z) g.2.1.1), if_neg (fun z => ((on_eq h.1 h.2.2.1 b1 b8 b9 hx hF hj).mp z) g.2.1.2)]
end WALK
