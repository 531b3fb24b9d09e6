/-! FLOWS ON BOTH SIDES: what a way adds, and how often -/
/-- how much leaves the source -/
def Vf (τ : pr_I) (s : Nat) (r : Nat → Int32) : Nat → Int
  | 0 => 0
  | j + 1 => Vf τ s r j + ((if bf_f τ j = s then (r j).toInt else 0) - (if bf_g τ j = s then (r j).toInt else 0))
theorem Vf_s {τ : pr_I} {s : Nat} {r : Nat → Int32} {j : Nat} : Vf τ s r (j + 1) = Vf τ s r j + ((if bf_f τ j = s then (r j).toInt else 0) - (if bf_g τ j = s then (r j).toInt else 0)) := rfl
theorem Vf_up {τ : pr_I} {s kk : Nat} {X : pr_I} {o : Nat} {v : Int32} : ∀ n, Vf τ s (pr_up X o kk v o) n = Vf τ s (X o) n + (if kk < n then ((if bf_f τ kk = s then v.toInt - (X o kk).toInt else 0) - (if bf_g τ kk = s then v.toInt - (X o kk).toInt else 0)) else 0)
  | 0 => by rw [if_neg (by omega)]; rfl
  | n + 1 => by
    rw [Vf_s, Vf_s, Vf_up n]
    by_cases e : n = kk
    · rw [e, pr_upe, if_neg (show ¬ kk < kk by omega), if_pos (show kk < kk + 1 by omega)]
      by_cases c1 : bf_f τ kk = s <;> by_cases c2 : bf_g τ kk = s <;> simp only [c1, c2, if_true, if_false] <;> omega
    · rw [pr_upk e]
      by_cases c : kk < n
      · rw [if_pos c, if_pos (show kk < n + 1 by omega)]; omega
      · rw [if_neg c, if_neg (show ¬ kk < n + 1 by omega)]; omega
theorem Vf_le {τ : pr_I} {s : Nat} {r : Nat → Int32} : ∀ n, (∀ j, j < n → 0 ≤ (r j).toInt ∧ (r j).toInt ≤ 1000) → Vf τ s r n ≤ 1000 * (n : Int)
  | 0, _ => Int.le_refl 0
  | n + 1, h => by
    have ih := Vf_le (τ := τ) (s := s) n (fun j hj => h j (by omega))
    obtain ⟨h1, h2⟩ := h n (by omega)
    rw [Vf_s]
    by_cases c1 : bf_f τ n = s <;> by_cases c2 : bf_g τ n = s <;> simp only [c1, c2, if_true, if_false] <;> omega
theorem Vf_0 {τ : pr_I} {s : Nat} {r : Nat → Int32} : ∀ n, (∀ j, j < n → r j = 0) → Vf τ s r n = 0
  | 0, _ => rfl
  | n + 1, h => by
    have z0 : (0 : Int32).toInt = 0 := rfl
    rw [Vf_s, Vf_0 n (fun j hj => h j (by omega)), h n (by omega), z0]
    split <;> split <;> rfl
section FV
variable {τ φ μ a b : pr_I} {nl nn s t n : Nat} {pos np kp : Nat → Nat}
theorem neg_i {m : Int32} (h1 : 0 ≤ m.toInt) : (-m).toInt = - m.toInt := by
  rw [Int32.toInt_neg]
  have := m.toInt_lt
  exact bm32 (by omega) (by omega)
/-- the flow of a link behind k steps -/
theorem FP.fX2 (h : FP τ φ a b nl nn s t pos n np kp) {X : pr_I} {o : Nat} {m : Int32} : ∀ k, k ≤ n → ∀ j, (∃ i, i < k ∧ j = kp i ∧ fX τ X np kp o m k o j = X o j + (if bf_g τ (kp i) = np i then m else -m)) ∨ ((∀ i, i < k → j ≠ kp i) ∧ fX τ X np kp o m k o j = X o j)
  | 0, _, j => Or.inr ⟨fun i hi => absurd hi (by omega), rfl⟩
  | k + 1, hk, j => by
    have ih := h.fX2 (X := X) (o := o) (m := m) k (by omega) j
    rw [fX_s]
    by_cases e : j = kp k
    · refine Or.inl ⟨k, by omega, e, ?_⟩
      rw [e, pr_upe]
      rcases ih with ⟨i, i1, i2, _⟩ | ⟨_, i2⟩
      · exact absurd (i2.symm.trans e) (h.dis i1 (by omega))
      · rw [e] at i2; rw [i2]
    · rw [pr_upk e]
      rcases ih with ⟨i, i1, i2, i3⟩ | ⟨i1, i2⟩
      · exact Or.inl ⟨i, by omega, i2, i3⟩
      · refine Or.inr ⟨fun i hi => ?_, i2⟩
        by_cases z : i = k
        · rw [z]; exact e
        · exact i1 i (by omega)
theorem FP.both (h : FP τ φ a b nl nn s t pos n np kp) (F : FR φ b nl) (a1 : a 1 = φ 1) (a2 : a 2 = φ 2) {m : Int32} : FR (fX τ a np kp 2 m n) (fX τ b np kp 12 m n) nl := fun j hj => by
  refine ⟨?_, ?_⟩
  · rw [fX_ne (show (1 : Nat) ≠ 2 by decide), fX_ne (show (11 : Nat) ≠ 12 by decide), a1]; exact (F j hj).1
  · have e0 : a 2 j = b 12 j := by rw [a2]; exact (F j hj).2
    rcases h.fX2 (X := a) (o := 2) (m := m) n (Nat.le_refl _) j with ⟨i, i1, i2, i3⟩ | ⟨i1, i2⟩ <;> rcases h.fX2 (X := b) (o := 12) (m := m) n (Nat.le_refl _) j with ⟨k, k1, k2, k3⟩ | ⟨k1, k2⟩
    · have e : i = k := by
        by_cases q : i < k
        · exact absurd (i2.symm.trans k2) (h.dis q k1)
        · by_cases q2 : k < i
          · exact absurd (k2.symm.trans i2) (h.dis q2 i1)
          · omega
      rw [i3, k3, e, e0]
    · exact absurd i2 (k1 i i1)
    · exact absurd k2 (i1 k k1)
    · rw [i2, k2, e0]
theorem FP.fi (h : FP τ φ a b nl nn s t pos n np kp) (I : FI φ nl) (a1 : a 1 = φ 1) (a2 : a 2 = φ 2) {m : Int32} (m1 : 1 ≤ m.toInt) (hm : ∀ i, i < n → m.toInt ≤ (fl_rs τ φ np kp i).toInt) : FI (fX τ a np kp 2 m n) nl := fun j hj => by
  obtain ⟨I1, I2, I3, I4⟩ := I j hj
  rw [fX_ne (show (1 : Nat) ≠ 2 by decide), a1]
  rcases h.fX2 (X := a) (o := 2) (m := m) n (Nat.le_refl _) j with ⟨i, i1, i2, i3⟩ | ⟨i1, i2⟩
  · obtain ⟨r1, r2, r3, r4⟩ := h.rs1 I i1
    have hmi := hm i i1
    rw [i3, a2]
    rw [← i2] at r3 r4 ⊢
    by_cases c : bf_g τ j = np i
    · have := r3 c
      rw [if_pos c, i_add (by omega) (by omega)]
      exact ⟨by omega, by omega, I3, I4⟩
    · have r5 := congrArg Int32.toInt (r4 c)
      rw [if_neg c, i_add (by rw [neg_i (by omega)]; omega) (by rw [neg_i (by omega)]; omega), neg_i (by omega)]
      exact ⟨by omega, by omega, I3, I4⟩
  · rw [i2, a2]; exact ⟨I1, I2, I3, I4⟩
theorem FP.vf (h : FP τ φ a b nl nn s t pos n np kp) (I : FI φ nl) (a2 : a 2 = φ 2) {m : Int32} (m1 : 1 ≤ m.toInt) (hm : ∀ i, i < n → m.toInt ≤ (fl_rs τ φ np kp i).toInt) : ∀ k, k ≤ n → Vf τ s (fX τ a np kp 2 m k 2) nl = Vf τ s (φ 2) nl + (if k = n ∧ 0 < n then m.toInt else 0)
  | 0, _ => by
    rw [if_neg (by omega)]
    show Vf τ s (a 2) nl = _
    rw [a2]; omega
  | k + 1, hk => by
    have ih := h.vf I a2 m1 hm k (by omega)
    rw [if_neg (by omega)] at ih
    obtain ⟨p1, p2, p3, p4, p5, p6⟩ := h.2.2.2 k (by omega)
    obtain ⟨I1, I2, I3, I4⟩ := I (kp k) p2
    obtain ⟨r1, r2, r3, r4⟩ := h.rs1 I (i := k) (by omega)
    have hmi := hm k (by omega)
    have e : fX τ a np kp 2 m k 2 (kp k) = φ 2 (kp k) := by
      rcases h.fX2 (X := a) (o := 2) (m := m) k (by omega) (kp k) with ⟨i, i1, i2, _⟩ | ⟨_, i2⟩
      · exact absurd i2.symm (h.dis i1 (by omega))
      · rw [i2, a2]
    have last : k + 1 = n ↔ np (k + 1) = s := by
      constructor
      · intro z; rw [z]; exact h.2.1
      · intro z
        by_cases q : k + 1 < n
        · exact absurd z (h.2.2.2 (k + 1) q).1
        · omega
    rw [fX_s, Vf_up, if_pos p2, ih, e]
    rcases h.two (i := k) (by omega) with ⟨q1, q2, q3⟩ | ⟨q1, q2, q3, q4⟩
    · rw [if_pos q1, q1, q2, if_neg p1, i_add (by have := r3 q1; omega) (by have := r3 q1; omega)]
      by_cases z : np (k + 1) = s
      · rw [if_pos z, if_pos ⟨last.mpr z, by omega⟩]; omega
      · rw [if_neg z, if_neg (fun y => z (last.mp y.1))]; omega
    · have r5 := congrArg Int32.toInt (r4 q1)
      rw [if_neg q1, q2, q3, if_neg p1, i_add (by rw [neg_i (by omega)]; omega) (by rw [neg_i (by omega)]; omega), neg_i (by omega)]
      by_cases z : np (k + 1) = s
      · rw [if_pos z, if_pos ⟨last.mpr z, by omega⟩]; omega
      · rw [if_neg z, if_neg (fun y => z (last.mp y.1))]; omega
theorem Fe_c (a1 : a 1 = φ 1) (a2 : a 2 = φ 2) {kk x y : Nat} (h : Fe τ φ kk x y) : Fe τ a kk x y := by
  unfold Fe; rw [a1, a2]; exact h
/-- one search and, if the target is met, one way -/
theorem fl_turn (B : BL τ μ nl nn) (F : FR φ μ nl) (I : FI φ nl) (hl : mln μ = nl) (hnn : mnn μ = nn) (hs : s < nn) (ht : t < nn) (hst : s ≠ t) : m_me_ok μ (nI s) (nI t) ∧ (∀ x, x < nn → (bit (fl_se φ τ nl (nI s) 0 4) x = true ∧ m_me μ (nI s) (nI t) 15 x = 1) ∨ (bit (fl_se φ τ nl (nI s) 0 4) x = false ∧ m_me μ (nI s) (nI t) 15 x = 0)) ∧ (fl_is_r (fl_se φ τ nl (nI s)) (nI t) = 0 ↔ m_me_r μ (nI s) (nI t) = 0) ∧ (¬ m_me_r μ (nI s) (nI t) = 0 → m_pu_ok (m_me μ (nI s) (nI t)) (nI s) (nI t) ∧ fl_gr_r (fl_se φ τ nl (nI s)) τ nl (nI s) (nI t) = m_pu_r (m_me μ (nI s) (nI t)) (nI s) (nI t) ∧ FR (fl_gr (fl_se φ τ nl (nI s)) τ nl (nI s) (nI t)) (m_pu (m_me μ (nI s) (nI t)) (nI s) (nI t)) nl ∧ FI (fl_gr (fl_se φ τ nl (nI s)) τ nl (nI s) (nI t)) nl ∧ 1 ≤ (m_pu_r (m_me μ (nI s) (nI t)) (nI s) (nI t)).toInt ∧ (m_pu_r (m_me μ (nI s) (nI t)) (nI s) (nI t)).toInt ≤ 1000 ∧ Vf τ s (fl_gr (fl_se φ τ nl (nI s)) τ nl (nI s) (nI t) 2) nl = Vf τ s (φ 2) nl + (m_pu_r (m_me μ (nI s) (nI t)) (nI s) (nI t)).toInt) := by
  have hn := B.2.1
  obtain ⟨⟨tl, pos, S⟩, ok⟩ := se_all B F hl hnn hs ht
  have a1 : fl_se φ τ nl (nI s) 1 = φ 1 := fr_fl_se (by decide)
  have a2 : fl_se φ τ nl (nI s) 2 = φ 2 := fr_fl_se (by decide)
  have m1 : m_me μ (nI s) (nI t) 1 = μ 1 := fr_m_me (by decide)
  have m11 : m_me μ (nI s) (nI t) 11 = μ 11 := fr_m_me (by decide)
  have m12 : m_me μ (nI s) (nI t) 12 = μ 12 := fr_m_me (by decide)
  have er : m_me_r μ (nI s) (nI t) = m_me μ (nI s) (nI t) 15 t := by
    show m_me μ (nI s) (nI t) 15 (nI t).toNatClampNeg = _
    rw [nI_clamp (by omega)]
  have iff1 : fl_is_r (fl_se φ τ nl (nI s)) (nI t) = 0 ↔ m_me_r μ (nI s) (nI t) = 0 := by
    rw [er, is_bit (by omega)]
    rcases S.1 t ht with ⟨x1, x2⟩ | ⟨x1, x2⟩
    · rw [x1, x2, if_pos rfl]
    · rw [x1, x2, if_neg (by decide)]
  refine ⟨ok, S.1, iff1, fun z => ?_⟩
  have hb : bit (fl_se φ τ nl (nI s) 0 4) t = true := by
    rcases S.1 t ht with ⟨x1, x2⟩ | ⟨x1, x2⟩
    · exact x1
    · rw [er] at z; exact absurd x2 z
  have Bm : BL τ (m_me μ (nI s) (nI t)) nl nn := by
    unfold BL; rw [m1]; exact B
  have Fm : FR φ (m_me μ (nI s) (nI t)) nl := fun k hk => by rw [m11, m12]; exact F k hk
  have tn : tl ≤ nn := by rw [← S.2.1]; exact cn_le _
  have pt := (S.2.2.2 t ht hb).1
  obtain ⟨n, np, kp, n1, P⟩ := S.path (pos t) t (Nat.le_refl _) ht hb
  generalize fl_se φ τ nl (nI s) = a at *
  generalize m_me μ (nI s) (nI t) = b at *
  have n0 : 0 < n := by
    by_cases q : n = 0
    · have := P.2.1; rw [q, P.1] at this; exact absurd this.symm hst
    · omega
  obtain ⟨c1, c2⟩ := P.cls B a1 a2 hs (by omega)
  obtain ⟨d1, d2, d3⟩ := P.ref Bm Fm hs (by omega)
  have r0 := P.rs1 I n0
  have k6 : (1000000 : Int32).toInt = 1000000 := by decide
  have k9 : (1000000000 : Int32).toInt = 1000000000 := by decide
  have em : mnf 1000000 (fl_rs τ φ np kp) n = mnf 1000000000 (fl_rs τ φ np kp) n := by
    obtain ⟨k, hk⟩ : ∃ k, n = k + 1 := ⟨n - 1, by omega⟩
    rw [hk]
    exact mnf_eq (lt_i.mpr (by rw [k6]; omega)) (lt_i.mpr (by rw [k9]; omega)) k
  have ge : 1 ≤ (mnf 1000000000 (fl_rs τ φ np kp) n).toInt := mnf_ge (c := 1000000000) (x := 1) (by rw [k9]; decide) n (fun i hi => (P.rs1 I hi).1)
  have le : ∀ i, i < n → (mnf 1000000000 (fl_rs τ φ np kp) n).toInt ≤ (fl_rs τ φ np kp i).toInt := fun i hi => mnf_le n i hi
  have le0 := le 0 n0
  rw [c1, c2, d1, d2, em]
  generalize mnf 1000000000 (fl_rs τ φ np kp) n = m at *
  refine ⟨d3, rfl, P.both Fm a1 a2, P.fi I a1 a2 ge le, ge, by omega, ?_⟩
  rw [P.vf I a2 ge le n (Nat.le_refl _), if_pos ⟨rfl, n0⟩]
end FV
