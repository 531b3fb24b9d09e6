/-! FLOWS ON BOTH SIDES: the search -/
theorem cn_up1 {p q : Nat → Bool} {b : Nat} : ∀ n, b < n → p b = false → q b = true → (∀ x, x ≠ b → q x = p x) → cn q n = cn p n + 1
  | 0, h, _, _, _ => absurd h (by omega)
  | n + 1, h, h1, h2, h3 => by
    rw [cn_s, cn_s]
    by_cases e : b = n
    · subst e
      have : ∀ m, m ≤ b → cn q m = cn p m := by
        intro m
        induction m with
        | zero => intro _; rfl
        | succ m ih => intro hm; rw [cn_s, cn_s, ih (by omega), h3 m (by omega)]
      rw [this b (Nat.le_refl _), h1, h2, if_pos rfl, if_neg (by decide)]
    · rw [cn_up1 n (by omega) h1 h2 h3, h3 n (fun z => e z.symm)]; omega
theorem cn_room {p : Nat → Bool} {b n : Nat} (hb : b < n) (h : p b = false) : cn p n < n := by
  have := cn_lt (p := p) (q := fun _ => true) (b := b) n (fun _ _ _ => rfl) hb (by rw [h]; decide) rfl
  have := cn_le (p := fun _ => true) n
  omega
/-- equal rooms and flows -/
def FR (φ μ : pr_I) (nl : Nat) : Prop := ∀ k, k < nl → φ 1 k = μ 11 k ∧ φ 2 k = μ 12 k
/-- the link kk leads, with or against its flow, from y to x -/
def Fe (τ φ : pr_I) (kk x y : Nat) : Prop := (bf_g τ kk = x ∧ bf_f τ kk = y ∧ φ 2 kk < φ 1 kk) ∨ (bf_f τ kk = x ∧ bf_g τ kk = y ∧ 0 < φ 2 kk)
/-- a search under way on both sides -/
def SR (τ φ : pr_I) (nl nn s tl : Nat) (a b : pr_I) (pos : Nat → Nat) : Prop :=
  (∀ x, x < nn → (bit (a 0 4) x = true ∧ b 15 x = 1) ∨ (bit (a 0 4) x = false ∧ b 15 x = 0)) ∧
  cn (fun x => bit (a 0 4) x) nn = tl ∧
  (∀ i, i < tl → ∃ q, q < nn ∧ a 3 i = nI q ∧ b 14 i = nI q ∧ bit (a 0 4) q = true ∧ pos q = i) ∧
  (∀ x, x < nn → bit (a 0 4) x = true → pos x < tl ∧ (x = s ∨ ∃ kk y, kk < nl ∧ y < nn ∧ a 4 x = nI kk ∧ b 13 x = nI kk ∧ bit (a 0 4) y = true ∧ pos y < pos x ∧ Fe τ φ kk x y))
section SE
variable {τ φ μ : pr_I} {nl nn s : Nat}
theorem SR.room {tl : Nat} {a b : pr_I} {pos : Nat → Nat} (h : SR τ φ nl nn s tl a b pos) {x : Nat} (hx : x < nn) (hm : bit (a 0 4) x = false) : tl < nn := by
  rw [← h.2.1]; exact cn_room hx hm
theorem SR.add {tl : Nat} {a b : pr_I} {pos : Nat → Nat} (h : SR τ φ nl nn s tl a b pos) (hn : nn ≤ 12) {x kk q : Nat} (hx : x < nn) (hm : bit (a 0 4) x = false) (hk : kk < nl) (hq : q < nn) (hqm : bit (a 0 4) q = true) (fe : Fe τ φ kk x q) : SR τ φ nl nn s (tl + 1) (pr_up (pr_up (pr_up a 0 4 (a 0 4 ||| ((1 : Int32) <<< (nI x &&& 31)))) 4 x (nI kk)) 3 tl (nI x)) (pr_up (pr_up (pr_up b 15 x (1 : Int32)) 13 x (nI kk)) 14 tl (nI x)) (fun z => if z = x then tl else pos z) := by
  have e0 : pr_up (pr_up (pr_up a 0 4 (a 0 4 ||| ((1 : Int32) <<< (nI x &&& 31)))) 4 x (nI kk)) 3 tl (nI x) 0 4 = (a 0 4 ||| ((1 : Int32) <<< (nI x &&& 31))) := by
    rw [pr_upv (by decide), pr_upv (by decide), pr_upe]
  have eb : ∀ i, i < 32 → bit (pr_up (pr_up (pr_up a 0 4 (a 0 4 ||| ((1 : Int32) <<< (nI x &&& 31)))) 4 x (nI kk)) 3 tl (nI x) 0 4) i = if i = x then true else bit (a 0 4) i := fun i hi => by
    rw [e0]; exact bit_on (by omega) hi
  have qx : q ≠ x := fun z => by rw [z, hm] at hqm; exact absurd hqm (by decide)
  obtain ⟨h1, h2, h3, h4⟩ := h
  refine ⟨fun i hi => ?_, ?_, fun i hi => ?_, fun i hi hb => ?_⟩
  · rw [eb i (by omega), pr_upv (by decide), pr_upv (by decide)]
    by_cases e : i = x
    · rw [if_pos e, e, pr_upe]; exact Or.inl ⟨rfl, rfl⟩
    · rw [if_neg e, pr_upk e]; exact h1 i hi
  · have c : cn (fun i => if i = x then true else bit (a 0 4) i) nn = cn (fun i => bit (a 0 4) i) nn + 1 := cn_up1 nn hx hm (if_pos rfl) (fun i hi => if_neg hi)
    have c2 : ∀ m, m ≤ nn → cn (fun i => bit (pr_up (pr_up (pr_up a 0 4 (a 0 4 ||| ((1 : Int32) <<< (nI x &&& 31)))) 4 x (nI kk)) 3 tl (nI x) 0 4) i) m = cn (fun i => if i = x then true else bit (a 0 4) i) m := by
      intro m
      induction m with
      | zero => intro _; rfl
      | succ m ih => intro hm'; rw [cn_s, cn_s, ih (by omega), eb m (by omega)]
    rw [c2 nn (Nat.le_refl _), c, h2]
  · by_cases e : i = tl
    · refine ⟨x, hx, by rw [e, pr_upe], by rw [e, pr_upe], by rw [eb x (by omega), if_pos rfl], ?_⟩
      show (if x = x then tl else pos x) = i
      rw [if_pos rfl, e]
    · obtain ⟨q', a1, a2, a3, a4, a5⟩ := h3 i (by omega)
      have q'x : q' ≠ x := fun z => by rw [z, hm] at a4; exact absurd a4 (by decide)
      refine ⟨q', a1, ?_, ?_, by rw [eb q' (by omega), if_neg q'x]; exact a4, ?_⟩
      · rw [pr_upk e, pr_upv (by decide), pr_upv (by decide)]; exact a2
      · rw [pr_upk e, pr_upv (by decide), pr_upv (by decide)]; exact a3
      · show (if q' = x then tl else pos q') = i
        rw [if_neg q'x]; exact a5
  · rw [eb i (by omega)] at hb
    show (if i = x then tl else pos i) < tl + 1 ∧ _
    by_cases e : i = x
    · rw [if_pos e]
      refine ⟨by omega, Or.inr ⟨kk, q, hk, hq, ?_, ?_, by rw [eb q (by omega), if_neg qx]; exact hqm, ?_, by rw [e]; exact fe⟩⟩
      · rw [e, pr_upv (by decide), pr_upe]
      · rw [e, pr_upv (by decide), pr_upe]
      · show (if q = x then tl else pos q) < (if i = x then tl else pos i)
        rw [if_neg qx, if_pos e]; exact (h4 q hq hqm).1
    · rw [if_neg e] at hb ⊢
      obtain ⟨p1, p2⟩ := h4 i hi hb
      refine ⟨by omega, ?_⟩
      rcases p2 with p2 | ⟨k', y, a1, a2, a3, a4, a5, a6, a7⟩
      · exact Or.inl p2
      · have yx : y ≠ x := fun z => by rw [z, hm] at a5; exact absurd a5 (by decide)
        refine Or.inr ⟨k', y, a1, a2, ?_, ?_, by rw [eb y (by omega), if_neg yx]; exact a5, ?_, a7⟩
        · rw [pr_upv (by decide), pr_upk e, pr_upv (by decide)]; exact a3
        · rw [pr_upv (by decide), pr_upk e, pr_upv (by decide)]; exact a4
        · show (if y = x then tl else pos y) < (if i = x then tl else pos i)
          rw [if_neg yx, if_neg e]; exact a6
/-- where a link leads to -/
theorem ac_eq (B : BL τ μ nl nn) (F : FR φ μ nl) {a : pr_I} (a1 : a 1 = φ 1) (a2 : a 2 = φ 2) {k : Nat} {x : Int32} (hk : k < nl) : fl_ac_r a τ nl k x = m_nxt μ k x := by
  obtain ⟨_, _, _, e2, e3, _⟩ := B.2.2 k hk
  unfold fl_ac_r m_nxt
  rw [a1, a2, e2, e3, (F k hk).1, (F k hk).2]
theorem nI_m1n {q : Nat} (hq : q < 2147483648) : ¬ nI q = -1 := fun z => by
  have z2 := congrArg Int32.toInt z
  rw [nI_toI hq, m1_i] at z2; omega
theorem ac_cases (B : BL τ μ nl nn) {a : pr_I} (a1 : a 1 = φ 1) (a2 : a 2 = φ 2) {k q : Nat} (hk : k < nl) (hq : q < nn) : fl_ac_r a τ nl k (nI q) = -1 ∨ ∃ y, y < nn ∧ fl_ac_r a τ nl k (nI q) = nI y ∧ Fe τ φ k y q := by
  have hn := B.2.1
  obtain ⟨v2, v3, _⟩ := B.2.2 k hk
  have l2 : bf_f τ k < nn := vp_in_lt v2
  have l3 : bf_g τ k < nn := vp_in_lt v3
  have f2 : τ 2 k = nI (bf_f τ k) := vp_nI v2 (by omega)
  have f3 : τ 3 k = nI (bf_g τ k) := vp_nI v3 (by omega)
  have c2 : τ 2 k = nI q ↔ bf_f τ k = q := by rw [f2]; exact nI_eq (by omega) (by omega)
  have c3 : τ 3 k = nI q ↔ bf_g τ k = q := by rw [f3]; exact nI_eq (by omega) (by omega)
  have back : (if τ 3 k = nI q then (if a 2 k ≤ 0 then (-1 : Int32) else τ 2 k) else (-1 : Int32)) = -1 ∨ ∃ y, y < nn ∧ (if τ 3 k = nI q then (if a 2 k ≤ 0 then (-1 : Int32) else τ 2 k) else (-1 : Int32)) = nI y ∧ Fe τ φ k y q := by
    by_cases d3 : τ 3 k = nI q
    · rw [if_pos d3]
      by_cases d : a 2 k ≤ 0
      · rw [if_pos d]; exact Or.inl rfl
      · rw [if_neg d]
        refine Or.inr ⟨bf_f τ k, l2, f2, Or.inr ⟨rfl, c3.mp d3, ?_⟩⟩
        rw [← a2]
        have d' : ¬ (a 2 k).toInt ≤ (0 : Int32).toInt := fun z => d (le_i.mpr z)
        refine lt_i.mpr ?_
        omega
    · rw [if_neg d3]; exact Or.inl rfl
  unfold fl_ac_r
  by_cases d2 : τ 2 k = nI q
  · rw [if_pos d2]
    by_cases d : a 1 k ≤ a 2 k
    · rw [if_pos d]; exact back
    · rw [if_neg d]
      refine Or.inr ⟨bf_g τ k, l3, f3, Or.inl ⟨rfl, c2.mp d2, ?_⟩⟩
      rw [← a1, ← a2]
      have d' : ¬ (a 1 k).toInt ≤ (a 2 k).toInt := fun z => d (le_i.mpr z)
      exact lt_i.mpr (by omega)
  · rw [if_neg d2]; exact back
theorem is_bit {a : pr_I} {x : Nat} (hx : x < 32) : fl_is_r a (nI x) = if bit (a 0 4) x = true then 1 else 0 := by
  unfold fl_is_r
  rw [bit_eq hx]
  cases bit (a 0 4) x <;> decide
/-- the links of one node -/
theorem se_in (B : BL τ μ nl nn) (F : FR φ μ nl) {a b σ0 : pr_I} {tl k : Nat} {pos : Nat → Nat} {S S' T : Int32} (h : SR τ φ nl nn s tl a b pos) (a1 : a 1 = φ 1) (a2 : a 2 = φ 2) (hk : k < tl) : ∀ k1, k1 ≤ nl → ∃ tl' pos', tl ≤ tl' ∧ SR τ φ nl nn s tl' (fl_se_it35 σ0 a τ nl S k (nI tl) k1).1 (m_me_it54 μ b S' T k (nI tl) k1).1 pos' ∧ (fl_se_it35 σ0 a τ nl S k (nI tl) k1).2 = nI tl' ∧ (m_me_it54 μ b S' T k (nI tl) k1).2 = nI tl'
  | 0, _ => ⟨tl, pos, Nat.le_refl _, h, rfl, rfl⟩
  | k1 + 1, hk1 => by
    obtain ⟨tl', pos', i1, i2, i3, i4⟩ := se_in B F (σ0 := σ0) (S := S) (S' := S') (T := T) h a1 a2 hk k1 (by omega)
    have hn := B.2.1
    have r1 : (fl_se_it35 σ0 a τ nl S k (nI tl) k1).1 1 = φ 1 := (fr_fl_se_it35 (by decide)).trans a1
    have r2 : (fl_se_it35 σ0 a τ nl S k (nI tl) k1).1 2 = φ 2 := (fr_fl_se_it35 (by decide)).trans a2
    obtain ⟨q, q1, q2, q3, q4, q5⟩ := i2.2.2.1 k (by omega)
    have tn : tl' ≤ nn := by rw [← i2.2.1]; exact cn_le _
    rw [fl_se_it35, m_me_it54, q2, q3, i3, i4, ← ac_eq B F r1 r2 (x := nI q) (show k1 < nl by omega)]
    generalize (fl_se_it35 σ0 a τ nl S k (nI tl) k1).1 = A at *
    generalize (m_me_it54 μ b S' T k (nI tl) k1).1 = C at *
    rcases ac_cases B r1 r2 (k := k1) (q := q) (by omega) q1 with d | ⟨y, y1, y2, y3⟩
    · rw [if_pos d, if_pos d]
      exact ⟨tl', pos', i1, i2, rfl, rfl⟩
    · rw [y2, if_neg (nI_m1n (by omega)), if_neg (nI_m1n (by omega)), is_bit (show y < 32 by omega), nI_clamp (show y < 2 ^ 31 by omega)]
      rcases i2.1 y y1 with ⟨m1, m2⟩ | ⟨m1, m2⟩
      · rw [m1, m2, if_pos rfl, if_neg (by decide), if_neg (by decide)]
        exact ⟨tl', pos', i1, i2, rfl, rfl⟩
      · have rm := i2.room y1 m1
        rw [m1, m2, if_neg (show ¬ false = true by decide), if_pos rfl, if_pos rfl, if_neg (show ¬ (12 : Int32) ≤ nI tl' from fun z => by have := (nI_leI (a := 12) (by decide) (by omega)).mp z; omega), nI_clamp (show tl' < 2 ^ 31 by omega)]
        exact ⟨tl' + 1, _, by omega, i2.add hn y1 m1 (by omega) q1 q4 y3, nI_1 _, nI_1 _⟩
/-- none is met at first -/
theorem me2_0 {S T : Int32} : ∀ n x, x < n → m_me_it2 μ S T n 15 x = 0
  | 0, _, h => absurd h (by omega)
  | n + 1, x, h => by
    rw [m_me_it2]
    by_cases e : x = n
    · rw [e, pr_upe]
    · rw [pr_upk e]; exact me2_0 n x (by omega)
theorem cn_0 {p : Nat → Bool} : ∀ n, (∀ x, x < n → p x = false) → cn p n = 0
  | 0, _ => rfl
  | n + 1, h => by rw [cn_s, cn_0 n (fun x hx => h x (by omega)), h n (by omega), if_neg (by decide)]
/-- node by node -/
theorem se_out (B : BL τ μ nl nn) (F : FR φ μ nl) (hl : mln μ = nl) (hnn : mnn μ = nn) (hs : s < nn) {T : Int32} : ∀ k, k ≤ 12 → ∃ tl pos, SR τ φ nl nn s tl (fl_se_it19 φ τ nl (nI s) k).1 (m_me_it45 μ (nI s) T k).1 pos ∧ (fl_se_it19 φ τ nl (nI s) k).2 = nI tl ∧ (m_me_it45 μ (nI s) T k).2 = nI tl
  | 0, _ => by
    have hn := B.2.1
    refine ⟨1, fun _ => 0, ?_, rfl, rfl⟩
    have e1 : (fl_se_it19 φ τ nl (nI s) 0).1 = pr_up (pr_up φ 0 4 ((1 : Int32) <<< (nI s &&& 31))) 3 0 (nI s) := rfl
    have e2 : (m_me_it45 μ (nI s) T 0).1 = pr_up (pr_up (m_me_it2 μ (nI s) T (mnn μ)) 15 (nI s).toNatClampNeg (1 : Int32)) 14 0 (nI s) := rfl
    have bs : ∀ i, i < 32 → bit (pr_up (pr_up φ 0 4 ((1 : Int32) <<< (nI s &&& 31))) 3 0 (nI s) 0 4) i = decide (i = s) := fun i hi => by
      rw [pr_upv (by decide), pr_upe]; exact bit_sh1 (by omega) hi
    rw [e1, e2, hnn, nI_clamp (show s < 2 ^ 31 by omega)]
    refine ⟨fun x hx => ?_, ?_, fun i hi => ?_, fun x hx hb => ?_⟩
    · rw [bs x (by omega), pr_upv (by decide)]
      by_cases e : x = s
      · rw [e, pr_upe]; exact Or.inl ⟨decide_eq_true rfl, rfl⟩
      · rw [pr_upk e]; exact Or.inr ⟨decide_eq_false e, me2_0 nn x hx⟩
    · have c0 : cn (fun _ => false) nn = 0 := cn_0 nn (fun _ _ => rfl)
      have c1 : cn (fun i => decide (i = s)) nn = cn (fun _ => false) nn + 1 := cn_up1 nn hs rfl (decide_eq_true rfl) (fun x hx => decide_eq_false hx)
      have c2 : ∀ m, m ≤ nn → cn (fun i => bit (pr_up (pr_up φ 0 4 ((1 : Int32) <<< (nI s &&& 31))) 3 0 (nI s) 0 4) i) m = cn (fun i => decide (i = s)) m := by
        intro m
        induction m with
        | zero => intro _; rfl
        | succ m ih => intro hm; rw [cn_s, cn_s, ih (by omega), bs m (by omega)]
      rw [c2 nn (Nat.le_refl _), c1, c0]
    · have i0 : i = 0 := by omega
      refine ⟨s, hs, by rw [i0, pr_upe], by rw [i0, pr_upe], by rw [bs s (by omega)]; exact decide_eq_true rfl, i0.symm⟩
    · rw [bs x (by omega)] at hb
      exact ⟨Nat.lt_succ_self 0, Or.inl (of_decide_eq_true hb)⟩
  | k + 1, hk => by
    obtain ⟨tl, pos, i1, i2, i3⟩ := se_out B F hl hnn hs (T := T) k (by omega)
    have hn := B.2.1
    have tn : tl ≤ nn := by rw [← i1.2.1]; exact cn_le _
    have r1 : (fl_se_it19 φ τ nl (nI s) k).1 1 = φ 1 := (fr_fl_se_it19 (by decide)).trans ((pr_up_ne (by decide)).trans (pr_up_ne (by decide)))
    have r2 : (fl_se_it19 φ τ nl (nI s) k).1 2 = φ 2 := (fr_fl_se_it19 (by decide)).trans ((pr_up_ne (by decide)).trans (pr_up_ne (by decide)))
    rw [fl_se_it19, m_me_it45, i2, i3, hl]
    by_cases c : nI tl ≤ nI k
    · rw [if_pos c, if_pos c]; exact ⟨tl, pos, i1, rfl, rfl⟩
    · rw [if_neg c, if_neg c]
      have c2 : k < tl := by
        by_cases q : k < tl
        · exact q
        · exact absurd ((nI_leI (by omega) (by omega)).mpr (by omega)) c
      obtain ⟨tl', pos', j1, j2, j3, j4⟩ := se_in B F (σ0 := φ) (S := nI s) (S' := nI s) (T := T) i1 r1 r2 c2 nl (Nat.le_refl _)
      exact ⟨tl', pos', j2, j3, j4⟩
/-- a search as a whole, and what the reference's contract asks -/
theorem se_all (B : BL τ μ nl nn) (F : FR φ μ nl) (hl : mln μ = nl) (hnn : mnn μ = nn) (hs : s < nn) {t : Nat} (ht : t < nn) : (∃ tl pos, SR τ φ nl nn s tl (fl_se φ τ nl (nI s)) (m_me μ (nI s) (nI t)) pos) ∧ m_me_ok μ (nI s) (nI t) := by
  have hn := B.2.1
  have h24 := B.1
  refine ⟨?_, ?_, fun k k1 hk hk1 hL hx hm => ?_, ?_⟩
  · obtain ⟨tl, pos, i1, _⟩ := se_out B F hl hnn hs (T := nI t) 12 (Nat.le_refl _)
    unfold fl_se m_me
    rw [sl_eq 12]
    exact ⟨tl, pos, i1⟩
  · obtain ⟨tl, pos, i1, _, i3⟩ := se_out B F hl hnn hs (T := nI t) 12 (Nat.le_refl _)
    have tn : tl ≤ nn := by rw [← i1.2.1]; exact cn_le _
    unfold m_me_it45_e
    rw [sl_eq 12, i3, if_pos ((nI_leI (by omega) (by decide)).mpr (by omega))]
  · obtain ⟨tl, pos, i1, i2, i3⟩ := se_out B F hl hnn hs (T := nI t) k (by omega)
    have tn : tl ≤ nn := by rw [← i1.2.1]; exact cn_le _
    rw [hl] at hk1
    rw [i3] at hL hx hm ⊢
    have r1 : (fl_se_it19 φ τ nl (nI s) k).1 1 = φ 1 := (fr_fl_se_it19 (by decide)).trans ((pr_up_ne (by decide)).trans (pr_up_ne (by decide)))
    have r2 : (fl_se_it19 φ τ nl (nI s) k).1 2 = φ 2 := (fr_fl_se_it19 (by decide)).trans ((pr_up_ne (by decide)).trans (pr_up_ne (by decide)))
    have c2 : k < tl := by
      by_cases q : k < tl
      · exact q
      · exact absurd ((nI_leI (by omega) (by omega)).mpr (by omega)) hL
    obtain ⟨tl', pos', j1, j2, j3, j4⟩ := se_in B F (σ0 := φ) (S := nI s) (S' := nI s) (T := nI t) i1 r1 r2 c2 k1 (by omega)
    have s1 : (fl_se_it35 φ (fl_se_it19 φ τ nl (nI s) k).1 τ nl (nI s) k (nI tl) k1).1 1 = φ 1 := (fr_fl_se_it35 (by decide)).trans r1
    have s2 : (fl_se_it35 φ (fl_se_it19 φ τ nl (nI s) k).1 τ nl (nI s) k (nI tl) k1).1 2 = φ 2 := (fr_fl_se_it35 (by decide)).trans r2
    obtain ⟨q, q1, q2, q3, q4, q5⟩ := j2.2.2.1 k (by omega)
    rw [j4]
    rw [q3, ← ac_eq B F s1 s2 (x := nI q) hk1] at hx hm
    rcases ac_cases B s1 s2 (k := k1) (q := q) hk1 q1 with d | ⟨y, y1, y2, y3⟩
    · exact absurd d hx
    · rw [y2, nI_clamp (show y < 2 ^ 31 by omega)] at hm
      rcases j2.1 y y1 with ⟨m1, m2⟩ | ⟨m1, m2⟩
      · rw [m2] at hm; exact absurd hm (by decide)
      · have rm := j2.room y1 m1
        exact nI_vin (by omega) (by decide)
  · rw [hnn, nI_clamp (by omega)]; exact ht
end SE
