/-! FLOWS: what flows in flows out; a flow fills its cut -/
section FLC
variable {τ φ a b μ : pr_I} {nl nn s t n : Nat} {pos np kp : Nat → Nat}
theorem FP.vo (h : FP τ φ a b nl nn s t pos n np kp) (I : FI φ nl) (a2 : a 2 = φ 2) {m : Int32} (m1 : 1 ≤ m.toInt) (hm : ∀ i, i < n → m.toInt ≤ (fl_rs τ φ np kp i).toInt) (y : Nat) : ∀ k, k ≤ n → Vf τ y (fX τ a np kp 2 m k 2) nl = Vf τ y (φ 2) nl + ((if np k = y then m.toInt else 0) - (if np 0 = y then m.toInt else 0))
  | 0, _ => by
    show Vf τ y (a 2) nl = _
    rw [a2]; omega
  | k + 1, hk => by
    have ih := h.vo I a2 m1 hm y k (by omega)
    obtain ⟨p1, p2, p3, p4, p5, p6⟩ := h.2.2.2 k (by omega)
    obtain ⟨I1, I2, I3, I4⟩ := I (kp k) p2
    obtain ⟨r1, r2, r3, r4⟩ := h.rs1 I (i := k) (by omega)
    have hmi := hm k (by omega)
    have e : fX τ a np kp 2 m k 2 (kp k) = φ 2 (kp k) := by
      rcases h.fX2 (X := a) (o := 2) (m := m) k (by omega) (kp k) with ⟨i, i1, i2, _⟩ | ⟨_, i2⟩
      · exact absurd i2.symm (h.dis i1 (by omega))
      · rw [i2, a2]
    rw [fX_s, Vf_up, if_pos p2, ih, e]
    rcases h.two (i := k) (by omega) with ⟨q1, q2, q3⟩ | ⟨q1, q2, q3, q4⟩
    · rw [if_pos q1, q1, q2, i_add (by have := r3 q1; omega) (by have := r3 q1; omega)]
      by_cases z : np (k + 1) = y <;> by_cases w : np k = y <;> simp only [z, w, if_true, if_false] <;> omega
    · have r5 := congrArg Int32.toInt (r4 q1)
      rw [if_neg q1, q2, q3, i_add (by rw [neg_i (by omega)]; omega) (by rw [neg_i (by omega)]; omega), neg_i (by omega)]
      by_cases z : np (k + 1) = y <;> by_cases w : np k = y <;> simp only [z, w, if_true, if_false] <;> omega
/-- a ghost for the reference's side -/
noncomputable def gh (μ Q : pr_I) : pr_I := pr_row (pr_row μ 11 (Q 1)) 12 (Q 2)
theorem gh_1 {Q : pr_I} : gh μ Q 1 = μ 1 := by unfold gh; rw [pr_row_ne (by decide), pr_row_ne (by decide)]
theorem gh_FR {Q : pr_I} : FR Q (gh μ Q) nl := fun k _ => by
  unfold gh
  rw [pr_row_ne (show (11 : Nat) ≠ 12 by decide), pr_row_eq, pr_row_eq]
  exact ⟨rfl, rfl⟩
theorem gh_BL {Q : pr_I} (B : BL τ μ nl nn) : BL τ (gh μ Q) nl nn := by unfold BL; rw [gh_1]; exact B
theorem fl_turn2 (B : BL τ μ nl nn) (I : FI φ nl) (hl : mln μ = nl) (hnn : mnn μ = nn) (hs : s < nn) (ht : t < nn) (hst : s ≠ t) (hb : bit (fl_se φ τ nl (nI s) 0 4) t = true) : ∃ m : Int32, 1 ≤ m.toInt ∧ m.toInt ≤ 1000 ∧ fl_gr_r (fl_se φ τ nl (nI s)) τ nl (nI s) (nI t) = m ∧ fl_gr (fl_se φ τ nl (nI s)) τ nl (nI s) (nI t) 1 = φ 1 ∧ FI (fl_gr (fl_se φ τ nl (nI s)) τ nl (nI s) (nI t)) nl ∧ Vf τ s (fl_gr (fl_se φ τ nl (nI s)) τ nl (nI s) (nI t) 2) nl = Vf τ s (φ 2) nl + m.toInt ∧ ∀ y, y ≠ s → y ≠ t → Vf τ y (fl_gr (fl_se φ τ nl (nI s)) τ nl (nI s) (nI t) 2) nl = Vf τ y (φ 2) nl := by
  have hn := B.2.1
  obtain ⟨⟨tl, pos, S⟩, ok⟩ := se_all (gh_BL (Q := φ) B) gh_FR (by unfold mln; rw [gh_1]; exact hl) (by unfold mnn; rw [gh_1]; exact hnn) hs ht
  have a1 : fl_se φ τ nl (nI s) 1 = φ 1 := fr_fl_se (by decide)
  have a2 : fl_se φ τ nl (nI s) 2 = φ 2 := fr_fl_se (by decide)
  have tn : tl ≤ nn := by rw [← S.2.1]; exact cn_le _
  have pt := (S.2.2.2 t ht hb).1
  obtain ⟨n, np, kp, n1, P⟩ := S.path (pos t) t (Nat.le_refl _) ht hb
  generalize fl_se φ τ nl (nI s) = a at *
  generalize m_me (gh μ φ) (nI s) (nI t) = b at *
  have n0 : 0 < n := by
    by_cases q : n = 0
    · have := P.2.1; rw [q, P.1] at this; exact absurd this.symm hst
    · omega
  obtain ⟨c1, c2⟩ := P.cls B a1 a2 hs (by omega)
  have r0 := P.rs1 I n0
  have k6 : (1000000 : Int32).toInt = 1000000 := by decide
  have ge : 1 ≤ (mnf 1000000 (fl_rs τ φ np kp) n).toInt := mnf_ge (c := 1000000) (x := 1) (by rw [k6]; decide) n (fun i hi => (P.rs1 I hi).1)
  have le : ∀ i, i < n → (mnf 1000000 (fl_rs τ φ np kp) n).toInt ≤ (fl_rs τ φ np kp i).toInt := fun i hi => mnf_le n i hi
  have le0 := le 0 n0
  rw [c1, c2]
  generalize mnf 1000000 (fl_rs τ φ np kp) n = m at *
  refine ⟨m, ge, by omega, rfl, (fX_ne (by decide) n).trans a1, P.fi I a1 a2 ge le, ?_, fun y h1 h2 => ?_⟩
  · rw [P.vf I a2 ge le n (Nat.le_refl _), if_pos ⟨rfl, n0⟩]
  · rw [P.vo I a2 ge le y n (Nat.le_refl _), P.2.1, P.1, if_neg (fun z => h1 z.symm), if_neg (fun z => h2 z.symm)]
    omega
/-- a feasible flow that is kept at all other nodes -/
def FQ (τ Q : pr_I) (nl nn s t : Nat) : Prop := FI Q nl ∧ ∀ y, y ≠ s → y ≠ t → Vf τ y (Q 2) nl = 0
theorem fl_fin {φ0 : pr_I} (B : BL τ μ nl nn) (hl : mln μ = nl) (hnn : mnn μ = nn) (hs : s < nn) (ht : t < nn) (hst : s ≠ t) : ∀ (j k : Nat) (Q : pr_I) (x : Int32), fl_fi_it20 φ0 τ nl (nI s) (nI t) k = (fl_se Q τ nl (nI s), x) → FQ τ Q nl nn s t → Q 1 = φ0 1 → x.toInt = Vf τ s (Q 2) nl → 0 ≤ x.toInt → (24001 : Int) ≤ Vf τ s (Q 2) nl + (j : Int) →
    ∃ k' Q' x', k' ≤ k + j ∧ fl_fi_it20 φ0 τ nl (nI s) (nI t) k' = (fl_se Q' τ nl (nI s), x') ∧ FQ τ Q' nl nn s t ∧ Q' 1 = φ0 1 ∧ x'.toInt = Vf τ s (Q' 2) nl ∧ 0 ≤ x'.toInt ∧ x'.toInt ≤ 24000 ∧ bit (fl_se Q' τ nl (nI s) 0 4) t = false
  | 0, k, Q, x, hk, F, h1, hx, hx0, hj => by
    have := F.1.le (τ := τ) (s := s)
    have := B.1
    omega
  | j + 1, k, Q, x, hk, F, h1, hx, hx0, hj => by
    have lim := F.1.le (τ := τ) (s := s)
    have h24 := B.1
    have hn := B.2.1
    cases hb : bit (fl_se Q τ nl (nI s) 0 4) t with
    | false => exact ⟨k, Q, x, by omega, hk, F, h1, hx, hx0, by omega, hb⟩
    | true =>
      obtain ⟨m, m1, m2, g1, g2, g3, g4, g5⟩ := fl_turn2 B F.1 hl hnn hs ht hst hb
      have lim2 := g3.le (τ := τ) (s := s)
      have hk2 : fl_fi_it20 φ0 τ nl (nI s) (nI t) (k + 1) = (fl_se (fl_gr (fl_se Q τ nl (nI s)) τ nl (nI s) (nI t)) τ nl (nI s), x + m) := by
        rw [fi20_s, hk]
        dsimp only
        rw [is_bit (by omega), hb, if_pos rfl, if_neg (by decide), g1]
      have ex : (x + m).toInt = x.toInt + m.toInt := i_add (by omega) (by omega)
      obtain ⟨k', Q', x', V1, V⟩ := fl_fin (φ0 := φ0) B hl hnn hs ht hst j (k + 1) (fl_gr (fl_se Q τ nl (nI s)) τ nl (nI s) (nI t)) (x + m) hk2 ⟨g3, fun y y1 y2 => (g5 y y1 y2).trans (F.2 y y1 y2)⟩ (g2.trans h1) (by rw [ex, g4]; omega) (by omega) (by omega)
      exact ⟨k', Q', x', by omega, V⟩
theorem fl_res (B : BL τ μ nl nn) (hR : ∀ k, k < nl → (φ 1 k).toInt ≤ 1000 ∧ -1000000 ≤ (φ 1 k).toInt) (hl : mln μ = nl) (hnn : mnn μ = nn) (hs : s < nn) (ht : t < nn) (hst : s ≠ t) : ∃ Q, fl_fi φ τ nl (nI s) (nI t) = fl_se Q τ nl (nI s) ∧ (fl_fi_r φ τ nl (nI s) (nI t)).toInt = Vf τ s (Q 2) nl ∧ 0 ≤ (fl_fi_r φ τ nl (nI s) (nI t)).toInt ∧ (fl_fi_r φ τ nl (nI s) (nI t)).toInt ≤ 24000 ∧ FQ τ Q nl nn s t ∧ Q 1 = φ 1 ∧ bit (fl_se Q τ nl (nI s) 0 4) t = false ∧ bit (fl_se Q τ nl (nI s) 0 4) s = true ∧ ∀ j x y, j < nl → x < nn → y < nn → bit (fl_se Q τ nl (nI s) 0 4) x = true → Fe τ Q j y x → bit (fl_se Q τ nl (nI s) 0 4) y = true := by
  have h24 := B.1
  have hn := B.2.1
  have z0 : (0 : Int32).toInt = 0 := rfl
  have q1 : pr_row φ 2 (fl_row (0 : Int32) (φ 2) 24) 1 = φ 1 := pr_row_ne (by decide)
  have q2 : ∀ k, k < nl → pr_row φ 2 (fl_row (0 : Int32) (φ 2) 24) 2 k = 0 := fun k hk => by
    show (if (2 : Nat) = 2 then fl_row (0 : Int32) (φ 2) 24 else φ 2) k = 0
    rw [if_pos rfl]
    show (if k < 24 then (0 : Int32) else φ 2 k) = 0
    rw [if_pos (by omega)]
  have v0 : ∀ y, Vf τ y (pr_row φ 2 (fl_row (0 : Int32) (φ 2) 24) 2) nl = 0 := fun y => Vf_0 nl q2
  obtain ⟨k', Q, x, L1, L2, L3, L4, L5, L6, L7, L8⟩ := fl_fin (τ := τ) (φ0 := φ) B hl hnn hs ht hst 24001 0 (pr_row φ 2 (fl_row (0 : Int32) (φ 2) 24)) 0 rfl ⟨fun k hk => by rw [q2 k hk, q1, z0]; exact ⟨Int.le_refl _, Or.inl rfl, hR k hk⟩, fun y _ _ => v0 y⟩ q1 (by rw [v0, z0]) (by decide) (by rw [v0]; omega)
  have st : ∀ N, k' ≤ N → fl_fi_it20 φ τ nl (nI s) (nI t) N = fl_fi_it20 φ τ nl (nI s) (nI t) k' := fun N hN => by
    have := st_fl_fi_it20_32 (σ := φ) (τ := τ) (nl := nl) (s := nI s) (t := nI t) (by rw [L2]; dsimp only; rw [is_bit (by omega), L8]; rfl) (N - k')
    rw [show k' + (N - k') = N by omega] at this
    exact this
  have e := (st (sl 1000000) (by rw [sl_eq 1000000]; omega)).trans L2
  have C := se_clo (gh_BL (Q := Q) B) gh_FR (by unfold mln; rw [gh_1]; exact hl) (by unfold mnn; rw [gh_1]; exact hnn) hs
  have er : fl_fi_r φ τ nl (nI s) (nI t) = x := by unfold fl_fi_r; rw [e]
  refine ⟨Q, by unfold fl_fi; rw [e], by rw [er]; exact L5, by rw [er]; exact L6, by rw [er]; exact L7, L3, L4, L8, C.1, C.2⟩
/-! cuts -/
def SV (τ : pr_I) (R : Nat → Bool) (r : Nat → Int32) (nl : Nat) : Nat → Int
  | 0 => 0
  | y + 1 => SV τ R r nl y + (if R y = true then Vf τ y r nl else 0)
def XV (τ : pr_I) (R : Nat → Bool) (r : Nat → Int32) : Nat → Int
  | 0 => 0
  | j + 1 => XV τ R r j + ((if R (bf_f τ j) = true then (r j).toInt else 0) - (if R (bf_g τ j) = true then (r j).toInt else 0))
/-- the capacity of a cut -/
def CC (τ : pr_I) (R : Nat → Bool) (r : Nat → Int32) : Nat → Int
  | 0 => 0
  | j + 1 => CC τ R r j + (if R (bf_f τ j) = true then (if R (bf_g τ j) = true then 0 else (r j).toInt) else 0)
theorem SV_0 {R : Nat → Bool} {r : Nat → Int32} : ∀ m, SV τ R r 0 m = 0
  | 0 => rfl
  | m + 1 => by
    rw [SV, SV_0 m]
    show 0 + (if R m = true then 0 else 0) = (0 : Int)
    split <;> rfl
theorem SV_s {R : Nat → Bool} {r : Nat → Int32} {j : Nat} : ∀ m, SV τ R r (j + 1) m = SV τ R r j m + ((if bf_f τ j < m then (if R (bf_f τ j) = true then (r j).toInt else 0) else 0) - (if bf_g τ j < m then (if R (bf_g τ j) = true then (r j).toInt else 0) else 0))
  | 0 => by
    rw [if_neg (Nat.not_lt_zero _), if_neg (Nat.not_lt_zero _)]; rfl
  | m + 1 => by
    rw [SV, SV, SV_s m, Vf_s]
    have c1 : ∀ z : Nat, (if z < m + 1 then (if R z = true then (r j).toInt else 0) else 0) = (if z < m then (if R z = true then (r j).toInt else 0) else 0) + (if z = m then (if R m = true then (r j).toInt else 0) else (0 : Int)) := fun z => by
      by_cases q : z = m
      · subst q
        rw [if_pos (Nat.lt_succ_self z), if_neg (Nat.lt_irrefl z), if_pos rfl]; omega
      · rw [if_neg q]
        by_cases w : z < m
        · rw [if_pos w, if_pos (by omega)]; omega
        · rw [if_neg w, if_neg (by omega)]; omega
    rw [c1, c1]
    by_cases q : R m = true
    · rw [if_pos q, if_pos q, if_pos q]; omega
    · rw [if_neg q, if_neg q, if_neg q, ite_self, ite_self]; omega
theorem SV_eq {R : Nat → Bool} {r : Nat → Int32} : ∀ nl, (∀ j, j < nl → bf_f τ j < nn ∧ bf_g τ j < nn) → SV τ R r nl nn = XV τ R r nl
  | 0, _ => SV_0 nn
  | j + 1, h => by
    obtain ⟨h1, h2⟩ := h j (Nat.lt_succ_self j)
    rw [SV_s, SV_eq j (fun i hi => h i (by omega)), if_pos h1, if_pos h2]
    rfl
theorem SV_one {R : Nat → Bool} {r : Nat → Int32} (hs : R s = true) (ht : R t = false) (h : ∀ y, y ≠ s → y ≠ t → Vf τ y r nl = 0) : ∀ m, SV τ R r nl m = if s < m then Vf τ s r nl else 0
  | 0 => by rw [if_neg (Nat.not_lt_zero s)]; rfl
  | m + 1 => by
    rw [SV, SV_one hs ht h m]
    by_cases q : m = s
    · subst q
      rw [if_neg (Nat.lt_irrefl m), if_pos hs, if_pos (Nat.lt_succ_self m)]; omega
    · have z : (if R m = true then Vf τ m r nl else 0) = 0 := by
        by_cases w : R m = true
        · rw [if_pos w]
          refine h m q (fun y => ?_)
          rw [y, ht] at w; exact absurd w (by decide)
        · rw [if_neg w]
      rw [z]
      by_cases w : s < m
      · rw [if_pos w, if_pos (by omega)]; omega
      · rw [if_neg w, if_neg (by omega)]; omega
theorem flow_cut {Q : pr_I} (B : BL τ μ nl nn) (F : FQ τ Q nl nn s t) (hs : s < nn) {R : Nat → Bool} (h1 : R s = true) (h2 : R t = false) : Vf τ s (Q 2) nl = XV τ R (Q 2) nl := by
  have e := SV_one (τ := τ) (nl := nl) (r := Q 2) h1 h2 F.2 nn
  rw [if_pos hs] at e
  rw [← e]
  exact SV_eq nl (fun j hj => ⟨vp_in_lt (B.2.2 j hj).1, vp_in_lt (B.2.2 j hj).2.1⟩)
/-- no flow is more than a cut -/
theorem XV_le {Q : pr_I} {R : Nat → Bool} {c : Nat → Int32} : ∀ m, (∀ j, j < m → 0 ≤ (Q 2 j).toInt ∧ (Q 2 j).toInt ≤ (c j).toInt) → XV τ R (Q 2) m ≤ CC τ R c m
  | 0, _ => Int.le_refl _
  | j + 1, h => by
    have ih := XV_le (R := R) j (fun i hi => h i (by omega))
    obtain ⟨a, b⟩ := h j (Nat.lt_succ_self j)
    rw [XV, CC]
    by_cases p : R (bf_f τ j) = true <;> by_cases q : R (bf_g τ j) = true
    · rw [if_pos p, if_pos q, if_pos p, if_pos q]; omega
    · rw [if_pos p, if_neg q, if_pos p, if_neg q]; omega
    · rw [if_neg p, if_pos q, if_neg p]; omega
    · rw [if_neg p, if_neg q, if_neg p]; omega
/-- the last search's cut is filled -/
theorem XV_eq {Q : pr_I} {R : Nat → Bool} {c : Nat → Int32} : ∀ m, (∀ j, j < m → (R (bf_f τ j) = true → R (bf_g τ j) = false → (Q 2 j).toInt = (c j).toInt) ∧ (R (bf_f τ j) = false → R (bf_g τ j) = true → (Q 2 j).toInt = 0)) → XV τ R (Q 2) m = CC τ R c m
  | 0, _ => rfl
  | j + 1, h => by
    have ih := XV_eq (R := R) j (fun i hi => h i (by omega))
    obtain ⟨a, b⟩ := h j (Nat.lt_succ_self j)
    rw [XV, CC, ih]
    cases p : R (bf_f τ j) <;> cases q : R (bf_g τ j)
    · simp
    · have := b p q
      simp [this]
    · have := a p q
      simp [this]
    · simp
end FLC
