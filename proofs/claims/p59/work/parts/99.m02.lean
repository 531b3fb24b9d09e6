/-! TICKETS GIVEN UP: what is kept stays -/
theorem S32_up {σ σ' : pr_I} {r c t : Nat} {f : Int32} (e10 : σ' 10 = σ 10) (ec : ∀ t', σ' c t' = if t' = t then σ c t + f else σ c t') : ∀ n, S32 σ' r c n = S32 σ r c n + (if t < n then (if σ 10 t = nI r then f else 0) else 0)
  | 0 => by rw [S32, S32, if_neg (Nat.not_lt_zero t), Int32.add_zero]
  | n + 1 => by
    rw [S32, S32, S32_up e10 ec n, e10, ec n]
    by_cases q : n = t
    · subst q
      rw [if_pos rfl, if_neg (Nat.lt_irrefl n), if_pos (Nat.lt_succ_self n), Int32.add_zero]
      by_cases w : σ 10 n = nI r
      · rw [if_pos w, if_pos w, if_pos w, Int32.add_assoc]
      · rw [if_neg w, if_neg w, if_neg w, Int32.add_zero, Int32.add_zero]
    · rw [if_neg q]
      by_cases w : t < n
      · rw [if_pos w, if_pos (show t < n + 1 by omega)]
        ac_rfl
      · rw [if_neg w, if_neg (show ¬ t < n + 1 by omega), Int32.add_zero, Int32.add_zero]
theorem J.rel {σ : pr_I} (h : J σ) {t : Nat} (ht : t < tkn σ) (hk : ¬ tk_kp σ t = 0) {s f : Int32} (hv : vp_in s 4) (h0 : ¬ s = 0) (h1 : ¬ s = 1) (f0 : 0 ≤ f.toInt) (f1 : f.toInt ≤ (σ 16 t).toInt) (h4 : rqn σ ≤ 40) : J (w_rel σ t s f) := by
  obtain ⟨a1, a2, a3, a4, a5, a6, a7⟩ := h.1 t ht
  have n := cells_rel (σ := σ) (t := t) (s := s) (f := f)
  have k : ∀ o, o ≠ 7 → o ≠ 15 → o ≠ 17 → o ≠ 27 → w_rel σ t s f o = σ o := fun o x1 x2 x3 x4 => by
    unfold w_rel
    rw [pr_up_ne x1, pr_up_ne x4, pr_up_ne x3, pr_up_ne x2]
  have e15 : ∀ t', w_rel σ t s f 15 t' = if t' = t then s else σ 15 t' := fun t' => by
    unfold w_rel
    rw [pr_upv (by decide), pr_upv (by decide), pr_upv (by decide)]
    by_cases q : t' = t
    · rw [if_pos q, q, pr_upe]
    · rw [if_neg q, pr_upk q]
  have e17 : ∀ t', w_rel σ t s f 17 t' = if t' = t then σ 17 t + f else σ 17 t' := fun t' => by
    unfold w_rel
    rw [pr_upv (by decide), pr_upv (by decide)]
    by_cases q : t' = t
    · rw [if_pos q, q, pr_upe]
    · rw [if_neg q, pr_upk q, pr_upv (by decide)]
  have er : σ 10 t = nI (σ 10 t).toNatClampNeg := vp_nI a1 (by omega)
  have hr := vp_in_lt a1
  have e27 : ∀ r', w_rel σ t s f 27 r' = if r' = (σ 10 t).toNatClampNeg then σ 27 r' + f else σ 27 r' := fun r' => by
    unfold w_rel
    rw [pr_upv (by decide)]
    by_cases q : r' = (σ 10 t).toNatClampNeg
    · rw [if_pos q, q, pr_upe]
    · rw [if_neg q, pr_upk q, pr_upv (by decide), pr_upv (by decide)]
  have ekp : ∀ t', t' ≠ t → tk_kp (w_rel σ t s f) t' = tk_kp σ t' := fun t' q => by
    unfold tk_kp; rw [e15, if_neg q]
  have ek0 : tk_kp (w_rel σ t s f) t = 0 := by
    unfold tk_kp; rw [e15, if_pos rfl, if_neg h0, if_neg h1]
  have kk : ∀ t', ¬ tk_kp (w_rel σ t s f) t' = 0 → ¬ tk_kp σ t' = 0 := fun t' z => by
    by_cases q : t' = t
    · rw [q]; exact hk
    · rw [← ekp t' q]; exact z
  refine ⟨fun t' ht' => ?_, fun r hr' => ?_, fun l hl => ?_⟩
  · rw [n.2.2] at ht'
    obtain ⟨b1, b2, b3, b4, b5, b6, b7⟩ := h.1 t' ht'
    unfold Jt
    rw [n.2.1, n.1, k 10 (by decide) (by decide) (by decide) (by decide), k 11 (by decide) (by decide) (by decide) (by decide), k 12 (by decide) (by decide) (by decide) (by decide), k 14 (by decide) (by decide) (by decide) (by decide), k 16 (by decide) (by decide) (by decide) (by decide), k 21 (by decide) (by decide) (by decide) (by decide), e17, e15]
    by_cases q : t' = t
    · subst q
      rw [if_pos rfl, if_pos rfl, a6 hk, Int32.zero_add]
      exact ⟨b1, b2, b3, ⟨f0, f1⟩, b5, fun z => absurd ek0 z, fun z => absurd z h0, hv⟩
    · rw [if_neg q, if_neg q, ekp t' q]
      exact ⟨b1, b2, b3, b4, b5, b6, b7⟩
  · rw [n.2.1] at hr'
    obtain ⟨b1, b2, b3, b4, b5, b6⟩ := h.2.1 r hr'
    refine ⟨fun t' ht' e z => ?_, b2.cong n.1 (fun o ho => ?_) ?_ ?_ (fun z => ?_), b3.cong ?_ (fun o ho => ?_), ?_, ?_, ?_⟩
    · rw [n.2.2] at ht'
      rw [k 10 (by decide) (by decide) (by decide) (by decide)] at e
      rw [k 23 (by decide) (by decide) (by decide) (by decide)]
      exact b1 t' ht' e (kk t' z)
    · simp only [List.mem_cons, List.not_mem_nil, or_false] at ho
      exact k o (by omega) (by omega) (by omega) (by omega)
    · exact k _ (by omega) (by omega) (by omega) (by omega)
    · rw [k 32 (by decide) (by decide) (by decide) (by decide)]
    · rw [k 23 (by decide) (by decide) (by decide) (by decide)] at z
      exact ⟨z, by rw [k 28 (by decide) (by decide) (by decide) (by decide)]⟩
    · rw [k 119 (by decide) (by decide) (by decide) (by decide)]
    · simp only [List.mem_cons, List.not_mem_nil, or_false] at ho
      rw [k o (by omega) (by omega) (by omega) (by omega)]
    · unfold Js
      rw [k 21 (by decide) (by decide) (by decide) (by decide), k 22 (by decide) (by decide) (by decide) (by decide)]
      exact b4
    · rw [n.2.2, k 26 (by decide) (by decide) (by decide) (by decide), S32_c (k 10 (by decide) (by decide) (by decide) (by decide)) (k 16 (by decide) (by decide) (by decide) (by decide))]
      exact b5
    · rw [n.2.2, S32_up (k 10 (by decide) (by decide) (by decide) (by decide)) e17, if_pos ht, e27, ← b6]
      by_cases q : r = (σ 10 t).toNatClampNeg
      · rw [if_pos q, if_pos (by rw [q]; exact er)]
      · rw [if_neg q, if_neg (fun z => q ((nI_eq (by omega) (by omega)).mp (z.symm.trans er))), Int32.add_zero]
  · rw [n.1] at hl
    rw [n.2.2, k 4 (by decide) (by decide) (by decide) (by decide)]
    refine Int.le_trans (Pu_le (tkn σ) (fun t' ht' => ⟨?_, ?_, kk t', (h.un ht').1⟩)) (h.2.2 l hl)
    · rw [k 11 (by decide) (by decide) (by decide) (by decide)]
    · rw [k 12 (by decide) (by decide) (by decide) (by decide)]
theorem J.ra {σ : pr_I} (h : J σ) {n : Nat} {r a b p : Int32} (h4 : rqn σ ≤ 40) (hf : ∀ k, k < tkn σ → σ 10 k = r → 0 ≤ (w_am σ a b p k).toInt ∧ (w_am σ a b p k).toInt ≤ (σ 16 k).toInt) : ∀ k, k ≤ tkn σ → J (w_ra_it6 σ n r a b p k).1
  | 0, _ => h
  | k + 1, hk => by
    have ih := J.ra h (n := n) h4 hf k (by omega)
    obtain ⟨n1, n2, n3⟩ := ra_n (σ := σ) (n := n) (r := r) (a := a) (b := b) (p := p) (k := k)
    rw [ra_step]
    by_cases c : σ 10 k = r
    · rw [if_pos c]
      by_cases c2 : tk_kp (w_ra_it6 σ n r a b p k).1 k = 0
      · rw [if_pos c2]; exact ih
      · rw [if_neg c2]
        obtain ⟨x1, x2⟩ := hf k (by omega) c
        exact ih.rel (by rw [n3]; omega) c2 (nI_vin (k := 3) (by decide) (by decide)) (by decide) (by decide) x1 (by rw [fr_w_ra_it6 (o := 16) (by decide)]; exact x2) (by rw [n2]; exact h4)
    · rw [if_neg c]; exact ih
theorem rel15 {σ : pr_I} {t t' : Nat} {s f : Int32} : w_rel σ t s f 15 t' = if t' = t then s else σ 15 t' := by
  unfold w_rel
  rw [pr_upv (by decide), pr_upv (by decide), pr_upv (by decide)]
  by_cases q : t' = t
  · rw [if_pos q, q, pr_upe]
  · rw [if_neg q, pr_upk q]
/-- which tickets are kept behind it -/
theorem ra_kp {σ : pr_I} {n : Nat} {r a b p : Int32} : ∀ k t, (¬ tk_kp (w_ra_it6 σ n r a b p k).1 t = 0 → ¬ tk_kp σ t = 0) ∧ (t < k → σ 10 t = r → tk_kp (w_ra_it6 σ n r a b p k).1 t = 0)
  | 0, t => ⟨fun z => z, fun z => absurd z (Nat.not_lt_zero t)⟩
  | k + 1, t => by
    obtain ⟨ih1, ih2⟩ := ra_kp (σ := σ) (n := n) (r := r) (a := a) (b := b) (p := p) k t
    rw [ra_step]
    by_cases c : σ 10 k = r
    · rw [if_pos c]
      by_cases c2 : tk_kp (w_ra_it6 σ n r a b p k).1 k = 0
      · rw [if_pos c2]
        refine ⟨ih1, fun x y => ?_⟩
        by_cases q : t = k
        · rw [q]; exact c2
        · exact ih2 (by omega) y
      · rw [if_neg c2]
        have e : tk_kp (w_rel (w_ra_it6 σ n r a b p k).1 k 3 (w_am σ a b p k)) t = if t = k then 0 else tk_kp (w_ra_it6 σ n r a b p k).1 t := by
          unfold tk_kp
          rw [rel15]
          by_cases q : t = k
          · rw [if_pos q, if_pos q, if_neg (by decide), if_neg (by decide)]
          · rw [if_neg q, if_neg q]
        rw [e]
        by_cases q : t = k
        · rw [if_pos q]; exact ⟨fun z => absurd rfl z, fun _ _ => rfl⟩
        · rw [if_neg q]; exact ⟨ih1, fun x y => ih2 (by omega) y⟩
    · rw [if_neg c]
      refine ⟨ih1, fun x y => ih2 ?_ y⟩
      by_cases q : t = k
      · subst q; exact absurd y c
      · omega
/-! SHARES -/
theorem am_le {σ : pr_I} {a b p : Int32} {k : Nat} (c0 : 0 ≤ (σ 16 k).toInt) (c1 : (σ 16 k).toInt ≤ 1000000) (a0 : 0 ≤ a.toInt) (ab : a.toInt ≤ b.toInt) (b1 : 1 ≤ b.toInt) (b2 : b.toInt ≤ 1000000) (p0 : 0 ≤ p.toInt) (p1 : p.toInt ≤ 100) : 0 ≤ (w_am σ a b p k).toInt ∧ (w_am σ a b p k).toInt ≤ (σ 16 k).toInt := by
  have hb : (1 : Int32) ≤ b := by rw [le_i]; have : (1 : Int32).toInt = 1 := rfl; omega
  unfold w_am
  rw [if_pos hb]
  have m0 : 0 ≤ (σ 16 k).toInt * a.toInt := Int.mul_nonneg c0 a0
  have m1 : (σ 16 k).toInt * a.toInt ≤ (σ 16 k).toInt * b.toInt := Int.mul_le_mul_of_nonneg_left ab c0
  have m2 : (σ 16 k).toInt * b.toInt ≤ 1000000 * 1000000 := Int.mul_le_mul c1 b2 (by omega) (by decide)
  have e1 : ((σ 16 k).toInt64 * a.toInt64).toInt = (σ 16 k).toInt * a.toInt := by
    rw [l_mul (by rw [Int32.toInt_toInt64, Int32.toInt_toInt64]; omega) (by rw [Int32.toInt_toInt64, Int32.toInt_toInt64]; omega), Int32.toInt_toInt64, Int32.toInt_toInt64]
  have e2 : ((σ 16 k).toInt64 * a.toInt64 / b.toInt64).toInt = (σ 16 k).toInt * a.toInt / b.toInt := by
    rw [l_div (by rw [e1]; exact m0) (by rw [Int32.toInt_toInt64]; omega), e1, Int32.toInt_toInt64]
  have d0 : 0 ≤ (σ 16 k).toInt * a.toInt / b.toInt := Int.ediv_nonneg m0 (by omega)
  have d1 : (σ 16 k).toInt * a.toInt / b.toInt ≤ (σ 16 k).toInt := by
    refine Int.le_trans (Int.ediv_le_ediv (by omega) m1) ?_
    rw [Int.mul_ediv_cancel _ (by omega)]
    exact Int.le_refl _
  obtain ⟨q, hq⟩ : ∃ q, (σ 16 k).toInt * a.toInt / b.toInt = q := ⟨_, rfl⟩
  rw [hq] at e2 d0 d1
  obtain ⟨Q, hQ⟩ : ∃ Q, (σ 16 k).toInt64 * a.toInt64 / b.toInt64 = Q := ⟨_, rfl⟩
  rw [hQ] at e2 ⊢
  have n0 : 0 ≤ q * p.toInt := Int.mul_nonneg d0 p0
  have n1 : q * p.toInt ≤ q * 100 := Int.mul_le_mul_of_nonneg_left p1 d0
  have e3 : (Q * p.toInt64).toInt = q * p.toInt := by
    rw [l_mul (by rw [e2, Int32.toInt_toInt64]; omega) (by rw [e2, Int32.toInt_toInt64]; omega), e2, Int32.toInt_toInt64]
  have e4 : (Q * p.toInt64 / 100).toInt = q * p.toInt / 100 := by
    rw [l_div (by rw [e3]; exact n0) (by decide), e3]; rfl
  have g0 : 0 ≤ q * p.toInt / 100 := Int.ediv_nonneg n0 (by decide)
  have g1 : q * p.toInt / 100 ≤ q := by
    refine Int.le_trans (Int.ediv_le_ediv (by decide) n1) ?_
    rw [Int.mul_ediv_cancel _ (by decide)]
    exact Int.le_refl _
  have e5 : (Q * p.toInt64 / 100).toInt32.toInt = q * p.toInt / 100 := by
    rw [Int64.toInt_toInt32, e4]
    exact bm32 (by omega) (by omega)
  rw [e5]
  omega
