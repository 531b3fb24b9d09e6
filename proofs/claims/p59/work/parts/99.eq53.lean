/-! FLOWS ON BOTH SIDES: a way that more can flow along -/
def FP (τ φ a b : pr_I) (nl nn s t : Nat) (pos : Nat → Nat) (n : Nat) (np kp : Nat → Nat) : Prop := np 0 = t ∧ np n = s ∧ (∀ i, i ≤ n → np i < nn) ∧ ∀ i, i < n → np i ≠ s ∧ kp i < nl ∧ a 4 (np i) = nI (kp i) ∧ b 13 (np i) = nI (kp i) ∧ Fe τ φ (kp i) (np i) (np (i + 1)) ∧ pos (np (i + 1)) < pos (np i)
section FP
variable {τ φ μ a b : pr_I} {nl nn s t tl n : Nat} {pos np kp : Nat → Nat}
theorem SR.path (h : SR τ φ nl nn s tl a b pos) : ∀ m t, pos t ≤ m → t < nn → bit (a 0 4) t = true → ∃ n np kp, n ≤ pos t ∧ FP τ φ a b nl nn s t pos n np kp
  | m, t, hm, ht, hb => by
    rcases (h.2.2.2 t ht hb).2 with e | ⟨kk, y, a1, a2, a3, a4, a5, a6, a7⟩
    · exact ⟨0, fun _ => t, fun _ => 0, Nat.zero_le _, rfl, e, fun _ _ => ht, fun i hi => absurd hi (by omega)⟩
    · by_cases e : t = s
      · exact ⟨0, fun _ => t, fun _ => 0, Nat.zero_le _, rfl, e, fun _ _ => ht, fun i hi => absurd hi (by omega)⟩
      · match m, hm with
        | 0, hm => omega
        | m + 1, hm =>
          obtain ⟨n, np, kp, n1, p1, p2, p3, p4⟩ := SR.path h m y (by omega) a2 a5
          refine ⟨n + 1, fun i => if i = 0 then t else np (i - 1), fun i => if i = 0 then kk else kp (i - 1), by omega, if_pos rfl, ?_, fun i hi => ?_, fun i hi => ?_⟩
          · show (if n + 1 = 0 then t else np (n + 1 - 1)) = s
            rw [if_neg (by omega)]; exact p2
          · show (if i = 0 then t else np (i - 1)) < nn
            by_cases q : i = 0
            · rw [if_pos q]; exact ht
            · rw [if_neg q]; exact p3 _ (by omega)
          · show (if i = 0 then t else np (i - 1)) ≠ s ∧ (if i = 0 then kk else kp (i - 1)) < nl ∧ a 4 (if i = 0 then t else np (i - 1)) = nI (if i = 0 then kk else kp (i - 1)) ∧ b 13 (if i = 0 then t else np (i - 1)) = nI (if i = 0 then kk else kp (i - 1)) ∧ Fe τ φ (if i = 0 then kk else kp (i - 1)) (if i = 0 then t else np (i - 1)) (if i + 1 = 0 then t else np (i + 1 - 1)) ∧ pos (if i + 1 = 0 then t else np (i + 1 - 1)) < pos (if i = 0 then t else np (i - 1))
            rw [if_neg (show ¬ i + 1 = 0 by omega), show i + 1 - 1 = i from rfl]
            by_cases q : i = 0
            · rw [if_pos q, if_pos q, q, p1]
              exact ⟨e, a1, a3, a4, a7, a6⟩
            · rw [if_neg q, if_neg q]
              have := p4 (i - 1) (by omega)
              rw [show i - 1 + 1 = i by omega] at this
              exact this
theorem FP.anti (h : FP τ φ a b nl nn s t pos n np kp) {i : Nat} : ∀ j, i < j → j ≤ n → pos (np j) < pos (np i)
  | 0, h1, _ => absurd h1 (by omega)
  | j + 1, h1, h2 => by
    have st := (h.2.2.2 j (by omega)).2.2.2.2.2
    by_cases e : i = j
    · rw [e]; exact st
    · exact Nat.lt_trans st (h.anti j (by omega) (by omega))
/-- its links differ -/
theorem FP.dis (h : FP τ φ a b nl nn s t pos n np kp) {i j : Nat} (hij : i < j) (hj : j < n) : kp i ≠ kp j := fun e => by
  have f1 := (h.2.2.2 i (by omega)).2.2.2.2.1
  have f2 := (h.2.2.2 j hj).2.2.2.2.1
  have o1 := h.anti (i := i) j hij (by omega)
  have o2 := h.anti (i := i) (j + 1) (by omega) (by omega)
  rw [e] at f1
  rcases f1 with ⟨g1, g2, _⟩ | ⟨g1, g2, _⟩ <;> rcases f2 with ⟨k1, k2, _⟩ | ⟨k1, k2, _⟩
  · rw [← g1, ← k1] at o1; omega
  · rw [← g1, ← k2] at o2; omega
  · rw [← g1, ← k2] at o2; omega
  · rw [← g1, ← k1] at o1; omega
theorem FP.ne (h : FP τ φ a b nl nn s t pos n np kp) {i : Nat} (hi : i < n) : np i ≠ np (i + 1) := fun e => by
  have := (h.2.2.2 i hi).2.2.2.2.2
  rw [e] at this; exact Nat.lt_irrefl _ this
/-- with the flow, or against it -/
theorem FP.two (h : FP τ φ a b nl nn s t pos n np kp) {i : Nat} (hi : i < n) : (bf_g τ (kp i) = np i ∧ bf_f τ (kp i) = np (i + 1) ∧ φ 2 (kp i) < φ 1 (kp i)) ∨ (¬ bf_g τ (kp i) = np i ∧ bf_f τ (kp i) = np i ∧ bf_g τ (kp i) = np (i + 1) ∧ 0 < φ 2 (kp i)) := by
  rcases (h.2.2.2 i hi).2.2.2.2.1 with f | ⟨f1, f2, f3⟩
  · exact Or.inl f
  · exact Or.inr ⟨fun z => h.ne hi (z.symm.trans f2), f1, f2, f3⟩
/-- what more can flow over one link -/
def fl_rs (τ φ : pr_I) (np kp : Nat → Nat) (i : Nat) : Int32 := if bf_g τ (kp i) = np i then φ 1 (kp i) - φ 2 (kp i) else φ 2 (kp i)
/-- the least of them -/
def mnf (c : Int32) (r : Nat → Int32) : Nat → Int32
  | 0 => c
  | k + 1 => if r k < mnf c r k then r k else mnf c r k
theorem mnf_s {c : Int32} {r : Nat → Int32} {k : Nat} : mnf c r (k + 1) = if r k < mnf c r k then r k else mnf c r k := rfl
theorem mnf_le {c : Int32} {r : Nat → Int32} : ∀ k i, i < k → (mnf c r k).toInt ≤ (r i).toInt
  | 0, _, h => absurd h (by omega)
  | k + 1, i, h => by
    rw [mnf_s]
    by_cases q : r k < mnf c r k
    · rw [if_pos q]
      by_cases e : i = k
      · rw [e]; exact Int.le_refl _
      · have := mnf_le (c := c) (r := r) k i (by omega)
        have := lt_i.mp q
        omega
    · rw [if_neg q]
      by_cases e : i = k
      · have q' : ¬ (r k).toInt < (mnf c r k).toInt := fun z => q (lt_i.mpr z)
        rw [e]; omega
      · exact mnf_le k i (by omega)
theorem mnf_ge {c x : Int32} {r : Nat → Int32} (hc : x.toInt ≤ c.toInt) : ∀ k, (∀ i, i < k → x.toInt ≤ (r i).toInt) → x.toInt ≤ (mnf c r k).toInt
  | 0, _ => hc
  | k + 1, h => by
    rw [mnf_s]
    by_cases q : r k < mnf c r k
    · rw [if_pos q]; exact h k (by omega)
    · rw [if_neg q]; exact mnf_ge hc k (fun i hi => h i (by omega))
theorem mnf_eq {c c' : Int32} {r : Nat → Int32} (h : r 0 < c) (h' : r 0 < c') : ∀ k, mnf c r (k + 1) = mnf c' r (k + 1)
  | 0 => by
    rw [mnf_s, mnf_s]
    show (if r 0 < c then r 0 else c) = (if r 0 < c' then r 0 else c')
    rw [if_pos h, if_pos h']
  | k + 1 => by rw [mnf_s, mnf_eq h h' k]; rfl
/-- flows within their rooms -/
def FI (φ : pr_I) (nl : Nat) : Prop := ∀ k, k < nl → 0 ≤ (φ 2 k).toInt ∧ ((φ 2 k).toInt = 0 ∨ (φ 2 k).toInt ≤ (φ 1 k).toInt) ∧ (φ 1 k).toInt ≤ 1000 ∧ -1000000 ≤ (φ 1 k).toInt
theorem FP.rs1 (h : FP τ φ a b nl nn s t pos n np kp) (I : FI φ nl) {i : Nat} (hi : i < n) : 1 ≤ (fl_rs τ φ np kp i).toInt ∧ (fl_rs τ φ np kp i).toInt ≤ 1000 ∧ (bf_g τ (kp i) = np i → (fl_rs τ φ np kp i).toInt = (φ 1 (kp i)).toInt - (φ 2 (kp i)).toInt) ∧ (¬ bf_g τ (kp i) = np i → fl_rs τ φ np kp i = φ 2 (kp i)) := by
  obtain ⟨I1, I2, I3, I4⟩ := I (kp i) (h.2.2.2 i hi).2.1
  have z0 : (0 : Int32).toInt = 0 := rfl
  rcases h.two hi with ⟨f1, f2, f3⟩ | ⟨f1, f2, f3, f4⟩
  · have e : fl_rs τ φ np kp i = φ 1 (kp i) - φ 2 (kp i) := if_pos f1
    have l := lt_i.mp f3
    have e2 : (φ 1 (kp i) - φ 2 (kp i)).toInt = (φ 1 (kp i)).toInt - (φ 2 (kp i)).toInt := i_sub (by omega) (by omega)
    rw [e, e2]
    exact ⟨by omega, by omega, fun _ => rfl, fun z => absurd f1 z⟩
  · have e : fl_rs τ φ np kp i = φ 2 (kp i) := if_neg f1
    have l := lt_i.mp f4
    rw [z0] at l
    rw [e]
    exact ⟨by omega, by omega, fun z => absurd z f1, fun _ => rfl⟩
/-! the class' two walks -/
theorem FP.c10 (h : FP τ φ a b nl nn s t pos n np kp) (B : BL τ μ nl nn) (a1 : a 1 = φ 1) (a2 : a 2 = φ 2) (hs : s < nn) : ∀ k, k ≤ n → fl_gr_it10 a τ nl (nI s) (nI t) k = (mnf 1000000 (fl_rs τ φ np kp) k, nI (np k))
  | 0, _ => by rw [h.1]; rfl
  | k + 1, hk => by
    have ih := h.c10 B a1 a2 hs k (by omega)
    have hn := B.2.1
    have hl := B.1
    obtain ⟨p1, p2, p3, p4, p5, p6⟩ := h.2.2.2 k (by omega)
    have n1 := h.2.2.1 k (by omega)
    have f2 : τ 2 (kp k) = nI (bf_f τ (kp k)) := vp_nI (B.2.2 _ p2).1 (by omega)
    have f3 : τ 3 (kp k) = nI (bf_g τ (kp k)) := vp_nI (B.2.2 _ p2).2.1 (by omega)
    have g3 : bf_g τ (kp k) < nn := vp_in_lt (B.2.2 _ p2).2.1
    have c3 : τ 3 (kp k) = nI (np k) ↔ bf_g τ (kp k) = np k := by rw [f3]; exact nI_eq (by omega) (by omega)
    have z1 : ¬ (1 : Int32) = 0 := by decide
    rw [fl_gr_it10, ih]
    dsimp only
    rw [if_neg (fun z => p1 ((nI_eq (by omega) (by omega)).mp z)), nI_clamp (show np k < 2 ^ 31 by omega), p3, nI_clamp (show kp k < 2 ^ 31 by omega), mnf_s, a1, a2]
    rcases h.two (i := k) (by omega) with ⟨q1, q2, q3⟩ | ⟨q1, q2, q3, q4⟩
    · rw [if_pos (c3.mpr q1), if_neg z1, if_neg z1, f2, q2, show fl_rs τ φ np kp k = φ 1 (kp k) - φ 2 (kp k) from if_pos q1]
    · rw [if_neg (fun z => q1 (c3.mp z)), if_pos rfl, if_pos rfl, f3, q3, show fl_rs τ φ np kp k = φ 2 (kp k) from if_neg q1]
/-- the flow behind each step -/
noncomputable def fX (τ a : pr_I) (np kp : Nat → Nat) (o : Nat) (m : Int32) : Nat → pr_I
  | 0 => a
  | k + 1 => pr_up (fX τ a np kp o m k) o (kp k) (fX τ a np kp o m k o (kp k) + (if bf_g τ (kp k) = np k then m else -m))
theorem fX_s {o k : Nat} {m : Int32} : fX τ a np kp o m (k + 1) = pr_up (fX τ a np kp o m k) o (kp k) (fX τ a np kp o m k o (kp k) + (if bf_g τ (kp k) = np k then m else -m)) := rfl
theorem fX_ne {o o' : Nat} {m : Int32} (h : o' ≠ o) : ∀ k, fX τ a np kp o m k o' = a o'
  | 0 => rfl
  | k + 1 => by rw [fX_s, pr_up_ne h]; exact fX_ne h k
theorem FP.c124 (h : FP τ φ a b nl nn s t pos n np kp) (B : BL τ μ nl nn) (hs : s < nn) {m : Int32} (hm : (fl_gr_it10 a τ nl (nI s) (nI t) (sl 12)).1 = m) : ∀ k, k ≤ n → fl_gr_it124 a τ nl (nI s) (nI t) k = (fX τ a np kp 2 m k, nI (np k))
  | 0, _ => by rw [h.1]; rfl
  | k + 1, hk => by
    have ih := h.c124 B hs hm k (by omega)
    have hn := B.2.1
    have hl := B.1
    obtain ⟨p1, p2, p3, p4, p5, p6⟩ := h.2.2.2 k (by omega)
    have n1 := h.2.2.1 k (by omega)
    have f2 : τ 2 (kp k) = nI (bf_f τ (kp k)) := vp_nI (B.2.2 _ p2).1 (by omega)
    have f3 : τ 3 (kp k) = nI (bf_g τ (kp k)) := vp_nI (B.2.2 _ p2).2.1 (by omega)
    have g3 : bf_g τ (kp k) < nn := vp_in_lt (B.2.2 _ p2).2.1
    have c3 : τ 3 (kp k) = nI (np k) ↔ bf_g τ (kp k) = np k := by rw [f3]; exact nI_eq (by omega) (by omega)
    have z1 : ¬ (1 : Int32) = 0 := by decide
    rw [fl_gr_it124, ih, hm]
    dsimp only
    rw [if_neg (fun z => p1 ((nI_eq (by omega) (by omega)).mp z)), nI_clamp (show np k < 2 ^ 31 by omega), p3, nI_clamp (show kp k < 2 ^ 31 by omega), fX_s]
    rcases h.two (i := k) (by omega) with ⟨q1, q2, q3⟩ | ⟨q1, q2, q3, q4⟩
    · rw [if_pos (c3.mpr q1), if_neg z1, if_neg z1, f2, q2, if_pos q1]
    · rw [if_neg (fun z => q1 (c3.mp z)), if_pos rfl, if_pos rfl, if_neg q1, f3, q3]
theorem FP.cls (h : FP τ φ a b nl nn s t pos n np kp) (B : BL τ μ nl nn) (a1 : a 1 = φ 1) (a2 : a 2 = φ 2) (hs : s < nn) (hn12 : n ≤ 12) : fl_gr_r a τ nl (nI s) (nI t) = mnf 1000000 (fl_rs τ φ np kp) n ∧ fl_gr a τ nl (nI s) (nI t) = fX τ a np kp 2 (mnf 1000000 (fl_rs τ φ np kp) n) n := by
  have e1 := h.c10 B a1 a2 hs n (Nat.le_refl _)
  have s1 := st_fl_gr_it10_20 (σ := a) (τ := τ) (nl := nl) (s := nI s) (t := nI t) (k := n) (by rw [e1, h.2.1]) (12 - n)
  rw [show n + (12 - n) = 12 by omega, e1] at s1
  have m1 : (fl_gr_it10 a τ nl (nI s) (nI t) (sl 12)).1 = mnf 1000000 (fl_rs τ φ np kp) n := by rw [sl_eq 12, s1]
  have e2 := h.c124 B hs m1 n (Nat.le_refl _)
  have s2 := st_fl_gr_it124_134 (σ := a) (τ := τ) (nl := nl) (s := nI s) (t := nI t) (k := n) (by rw [e2, h.2.1]) (12 - n)
  rw [show n + (12 - n) = 12 by omega, e2] at s2
  refine ⟨m1, ?_⟩
  unfold fl_gr
  rw [sl_eq 12, s2]
/-! the reference's two walks -/
theorem wi_eq {X : pr_I} {kk x : Nat} (hk : kk < 2147483648) : m_wi_r X (nI kk) (nI x) = if X 1 (96 + 7 * kk + 1) = nI x then 1 else 0 := by
  unfold m_wi_r; rw [nI_clamp hk]
theorem ot_eq {X : pr_I} {kk x : Nat} (hx : x < 2147483648) (hk : kk < 2147483648) (e : X 13 x = nI kk) : m_ot_r X (nI x) = if X 1 (96 + 7 * kk + 1) = nI x then X 1 (96 + 7 * kk + 0) else X 1 (96 + 7 * kk + 1) := by
  unfold m_ot_r
  rw [nI_clamp hx, e, wi_eq hk, nI_clamp hk]
  by_cases c : X 1 (96 + 7 * kk + 1) = nI x
  · rw [if_pos c, if_neg (by decide), if_pos c]
  · rw [if_neg c, if_pos rfl, if_neg c]
theorem FP.c6 (h : FP τ φ a b nl nn s t pos n np kp) (B : BL τ b nl nn) (F : FR φ b nl) (hs : s < nn) : ∀ k, k ≤ n → m_pu_it6 b (nI s) (nI t) k = (mnf 1000000000 (fl_rs τ φ np kp) k, nI (np k))
  | 0, _ => by rw [h.1]; rfl
  | k + 1, hk => by
    have ih := h.c6 B F hs k (by omega)
    have hn := B.2.1
    have hl := B.1
    obtain ⟨p1, p2, p3, p4, p5, p6⟩ := h.2.2.2 k (by omega)
    have n1 := h.2.2.1 k (by omega)
    obtain ⟨v2, v3, _, e2, e3, _⟩ := B.2.2 _ p2
    have f2 : τ 2 (kp k) = nI (bf_f τ (kp k)) := vp_nI v2 (by omega)
    have f3 : τ 3 (kp k) = nI (bf_g τ (kp k)) := vp_nI v3 (by omega)
    have g3 : bf_g τ (kp k) < nn := vp_in_lt v3
    have c3 : τ 3 (kp k) = nI (np k) ↔ bf_g τ (kp k) = np k := by rw [f3]; exact nI_eq (by omega) (by omega)
    have z1 : ¬ (1 : Int32) = 0 := by decide
    rw [m_pu_it6, ih]
    dsimp only
    rw [if_neg (fun z => p1 ((nI_eq (by omega) (by omega)).mp z)), nI_clamp (show np k < 2 ^ 31 by omega), p4, ot_eq (by omega) (by omega) p4, wi_eq (by omega), nI_clamp (show kp k < 2 ^ 31 by omega), mnf_s, ← e2, ← e3, ← (F _ p2).1, ← (F _ p2).2]
    rcases h.two (i := k) (by omega) with ⟨q1, q2, q3⟩ | ⟨q1, q2, q3, q4⟩
    · rw [if_pos (c3.mpr q1), if_neg z1, if_pos (c3.mpr q1), f2, q2, show fl_rs τ φ np kp k = φ 1 (kp k) - φ 2 (kp k) from if_pos q1]
    · rw [if_neg (fun z => q1 (c3.mp z)), if_pos rfl, if_neg (fun z => q1 (c3.mp z)), f3, q3, show fl_rs τ φ np kp k = φ 2 (kp k) from if_neg q1]
theorem FP.c87 (h : FP τ φ a b nl nn s t pos n np kp) (B : BL τ b nl nn) (hs : s < nn) {m : Int32} (hm : (m_pu_it6 b (nI s) (nI t) (sl 12)).1 = m) : ∀ k, k ≤ n → m_pu_it87 b (nI s) (nI t) k = (fX τ b np kp 12 m k, nI (np k))
  | 0, _ => by rw [h.1]; rfl
  | k + 1, hk => by
    have ih := h.c87 B hs hm k (by omega)
    have hn := B.2.1
    have hl := B.1
    obtain ⟨p1, p2, p3, p4, p5, p6⟩ := h.2.2.2 k (by omega)
    have n1 := h.2.2.1 k (by omega)
    obtain ⟨v2, v3, _, e2, e3, _⟩ := B.2.2 _ p2
    have f2 : τ 2 (kp k) = nI (bf_f τ (kp k)) := vp_nI v2 (by omega)
    have f3 : τ 3 (kp k) = nI (bf_g τ (kp k)) := vp_nI v3 (by omega)
    have g3 : bf_g τ (kp k) < nn := vp_in_lt v3
    have c3 : τ 3 (kp k) = nI (np k) ↔ bf_g τ (kp k) = np k := by rw [f3]; exact nI_eq (by omega) (by omega)
    have z1 : ¬ (1 : Int32) = 0 := by decide
    have x1 : ∀ v, pr_up (fX τ b np kp 12 m k) 12 (kp k) v 1 = b 1 := fun v => (pr_up_ne (by decide)).trans (fX_ne (by decide) k)
    have x13 : ∀ v, pr_up (fX τ b np kp 12 m k) 12 (kp k) v 13 (np k) = nI (kp k) := fun v => (congrFun ((pr_up_ne (by decide)).trans (fX_ne (by decide) k)) _).trans p4
    have y1 : fX τ b np kp 12 m k 1 = b 1 := fX_ne (by decide) k
    rw [m_pu_it87, ih, hm]
    dsimp only
    rw [if_neg (fun z => p1 ((nI_eq (by omega) (by omega)).mp z)), nI_clamp (show np k < 2 ^ 31 by omega), p4, nI_clamp (show kp k < 2 ^ 31 by omega), ot_eq (by omega) (by omega) (x13 _), wi_eq (by omega), x1, y1, fX_s, ← e2, ← e3]
    rcases h.two (i := k) (by omega) with ⟨q1, q2, q3⟩ | ⟨q1, q2, q3, q4⟩
    · rw [if_pos (c3.mpr q1), if_neg z1, if_pos (c3.mpr q1), f2, q2, if_pos q1]
    · rw [if_neg (fun z => q1 (c3.mp z)), if_pos rfl, if_neg (fun z => q1 (c3.mp z)), if_neg q1, f3, q3]
theorem FP.ref (h : FP τ φ a b nl nn s t pos n np kp) (B : BL τ b nl nn) (F : FR φ b nl) (hs : s < nn) (hn12 : n ≤ 12) : m_pu_r b (nI s) (nI t) = mnf 1000000000 (fl_rs τ φ np kp) n ∧ m_pu b (nI s) (nI t) = fX τ b np kp 12 (mnf 1000000000 (fl_rs τ φ np kp) n) n ∧ m_pu_ok b (nI s) (nI t) := by
  have e1 := h.c6 B F hs n (Nat.le_refl _)
  have s1 := st_m_pu_it6_9 (σ := b) (s := nI s) (t := nI t) (k := n) (by rw [e1, h.2.1]) (12 - n)
  rw [show n + (12 - n) = 12 by omega, e1] at s1
  have m1 : (m_pu_it6 b (nI s) (nI t) (sl 12)).1 = mnf 1000000000 (fl_rs τ φ np kp) n := by rw [sl_eq 12, s1]
  have e2 := h.c87 B hs m1 n (Nat.le_refl _)
  have s2 := st_m_pu_it87_90 (σ := b) (s := nI s) (t := nI t) (k := n) (by rw [e2, h.2.1]) (12 - n)
  rw [show n + (12 - n) = 12 by omega, e2] at s2
  refine ⟨m1, ?_, ?_, ?_⟩
  · unfold m_pu
    rw [sl_eq 12, s2]
  · unfold m_pu_it6_e
    rw [sl_eq 12, s1, h.2.1]; exact if_pos rfl
  · unfold m_pu_it87_e
    rw [sl_eq 12, s2, h.2.1]; exact if_pos rfl
end FP
