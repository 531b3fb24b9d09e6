/-! TIMES: what one request's move does to others' times -/
def Opr (σ σ' : pr_I) (r : Nat) : Prop := σ' 0 = σ 0 ∧ σ' 18 = σ 18 ∧ (∀ t, t < tkn σ' → (t < tkn σ ∧ σ' 14 t = σ 14 t ∧ (σ' 15 t = 0 → σ 15 t = 0)) ∨ (σ 0 7).toInt < (σ' 14 t).toInt) ∧ (∀ r', r' ≠ r → σ' 25 r' = σ 25 r' ∧ σ' 23 r' = σ 23 r' ∧ σ' 30 r' = σ 30 r') ∧ (σ' 23 r = 2 → (σ 23 r = 2 ∧ σ' 30 r = σ 30 r) ∨ (σ 0 7).toInt < (σ' 30 r).toInt) ∧ (σ' 25 r = -1 ∨ (σ 0 7).toInt < (σ' 25 r).toInt ∨ σ' 25 r = σ 25 r)
theorem Opr.rfl' {σ : pr_I} {r : Nat} : Opr σ σ r := ⟨rfl, rfl, fun _ ht => Or.inl ⟨ht, rfl, id⟩, fun _ _ => ⟨rfl, rfl, rfl⟩, fun h => Or.inl ⟨h, rfl⟩, Or.inr (Or.inr rfl)⟩
theorem Opr.trans {σ σ1 σ2 : pr_I} {r : Nat} (a : Opr σ σ1 r) (b : Opr σ1 σ2 r) : Opr σ σ2 r := by
  obtain ⟨a0, a18, at', ab, ac, ad⟩ := a
  obtain ⟨b0, b18, bt, bb, bc, bd⟩ := b
  rw [a0] at bt bc bd
  refine ⟨b0.trans a0, b18.trans a18, fun t ht => ?_, fun r' hr' => ?_, fun h => ?_, ?_⟩
  · rcases bt t ht with ⟨x1, x2, x3⟩ | x
    · rcases at' t x1 with ⟨y1, y2, y3⟩ | y
      · exact Or.inl ⟨y1, x2.trans y2, fun z => y3 (x3 z)⟩
      · exact Or.inr (by rw [x2]; exact y)
    · exact Or.inr x
  · obtain ⟨x1, x2, x3⟩ := ab r' hr'
    obtain ⟨y1, y2, y3⟩ := bb r' hr'
    exact ⟨y1.trans x1, y2.trans x2, y3.trans x3⟩
  · rcases bc h with ⟨x1, x2⟩ | x
    · rcases ac x1 with ⟨y1, y2⟩ | y
      · exact Or.inl ⟨y1, x2.trans y2⟩
      · exact Or.inr (by rw [x2]; exact y)
    · exact Or.inr x
  · rcases bd with x | x | x
    · exact Or.inl x
    · exact Or.inr (Or.inl x)
    · rw [x]; exact ad
theorem now_lt {σ : pr_I} {d : Int32} (h : Ti σ) (h1 : 1 ≤ d.toInt) (h2 : d.toInt ≤ 100000) : (σ 0 7).toInt < (σ 0 7 + d).toInt := by
  have := h.1
  have := h.2
  rw [i_add (by omega) (by omega)]
  omega
theorem ra15 {σ : pr_I} {n : Nat} {r a b p : Int32} {t : Nat} : ∀ k, (w_ra_it6 σ n r a b p k).1 15 t = 0 → σ 15 t = 0
  | 0, h => h
  | k + 1, h => by
    rw [ra_step] at h
    have ih := ra15 (σ := σ) (n := n) (r := r) (a := a) (b := b) (p := p) (t := t) k
    by_cases c : σ 10 k = r
    · rw [if_pos c] at h
      by_cases c2 : tk_kp (w_ra_it6 σ n r a b p k).1 k = 0
      · rw [if_pos c2] at h; exact ih h
      · rw [if_neg c2] at h
        unfold w_rel at h
        rw [pr_upv (show (15 : Nat) ≠ 7 by decide), pr_upv (show (15 : Nat) ≠ 27 by decide), pr_upv (show (15 : Nat) ≠ 17 by decide)] at h
        by_cases q : t = k
        · rw [q, pr_upe] at h; exact absurd h (by decide)
        · rw [pr_upk q] at h; exact ih h
    · rw [if_neg c] at h; exact ih h
theorem fail_15 {σ : pr_I} {n r : Nat} {x : Int32} : w_fail σ n r x 15 = w_ra σ n (nI r) 1 1 100 15 := by
  unfold w_fail w_settle
  split
  · rw [pr_up_ne (show (15 : Nat) ≠ 25 by decide), pr_up_ne (show (15 : Nat) ≠ 23 by decide), pr_up_ne (show (15 : Nat) ≠ 8 by decide), pr_up_ne (show (15 : Nat) ≠ 31 by decide), pr_up_ne (show (15 : Nat) ≠ 24 by decide), pr_up_ne (show (15 : Nat) ≠ 28 by decide)]
  · rw [pr_up_ne (show (15 : Nat) ≠ 25 by decide), pr_up_ne (show (15 : Nat) ≠ 23 by decide), pr_up_ne (show (15 : Nat) ≠ 8 by decide), pr_up_ne (show (15 : Nat) ≠ 31 by decide), pr_up_ne (show (15 : Nat) ≠ 24 by decide), pr_up_ne (show (15 : Nat) ≠ 28 by decide)]
theorem Opr.fail {σ μ : pr_I} (h : Wd σ μ) {n r : Nat} {x : Int32} : Opr σ (w_fail σ n r x) r := by
  have f : ∀ o, o ∈ ([0, 9, 14, 18, 30] : List Nat) → w_fail σ n r x o = σ o := fun o ho => fr_w_fail (nin (A := [0, 9, 14, 18, 30]) (by decide) ho)
  refine ⟨f 0 (by decide), f 18 (by decide), fun t ht => Or.inl ⟨by rw [tkn_c (f 9 (by decide))] at ht; exact ht, by rw [f 14 (by decide)], fun z => ?_⟩, fun r' hr' => ⟨by rw [fail_25, if_neg hr'], by rw [fail_23, if_neg hr'], by rw [f 30 (by decide)]⟩, fun z => ?_, ?_⟩
  · rw [fail_15] at z; exact ra15 n z
  · rw [fail_23, if_pos rfl] at z
    split at z <;> exact absurd z (by decide)
  · rw [fail_25, if_pos rfl]
    split
    · exact Or.inr (Or.inl (now_lt h.ti h.se.2.1.1 (by have := h.se.2.1.2; omega)))
    · exact Or.inl rfl
theorem Opr.settle {σ : pr_I} {r : Nat} {s : Int32} (hs : ¬ s = 2) : Opr σ (w_settle σ r s) r := by
  unfold w_settle
  have k : ∀ o, o ≠ 23 → o ≠ 25 → pr_up (pr_up σ 23 r s) 25 r (-1) o = σ o := fun o a b => by rw [pr_up_ne b, pr_up_ne a]
  refine ⟨k 0 (by decide) (by decide), k 18 (by decide) (by decide), fun t ht => Or.inl ⟨ht, by rw [k 14 (by decide) (by decide)], fun z => by rw [k 15 (by decide) (by decide)] at z; exact z⟩, fun r' hr' => ⟨by rw [pr_upk hr', pr_upv (by decide)], by rw [pr_upv (by decide), pr_upk hr'], by rw [k 30 (by decide) (by decide)]⟩, fun z => ?_, Or.inl pr_upe⟩
  rw [pr_upv (by decide), pr_upe] at z; exact absurd z hs
theorem Opr.beg {σ : pr_I} {r : Nat} (hr : r < 40) (hs : ¬ σ 23 r = 2) : Opr σ (w_beg σ r) r := by
  have f : ∀ o, o ∈ ([0, 9, 14, 15, 18, 30] : List Nat) → w_beg σ r o = σ o := fun o ho => fr_w_beg (nin (A := [0, 9, 14, 15, 18, 30]) (by decide) ho) (by simp only [List.mem_cons, List.not_mem_nil, or_false] at ho; omega) hr
  have c : ∀ r', (r' ≠ r → (w_beg σ r) 25 r' = σ 25 r' ∧ (w_beg σ r) 23 r' = σ 23 r') ∧ ¬ (w_beg σ r) 23 r = 2 ∧ ((w_beg σ r) 25 r = -1 ∨ (w_beg σ r) 25 r = σ 25 r) := fun r' => by
    have fF : ∀ o, o < 116 ∨ 118 < o → pt_find σ (lkn σ) (σ 19 r) (σ 20 r) (σ 1 7 &&& (σ 28 r ^^^ (-1))) o = σ o := fun o ho => fr_pt_find (by simp only [List.mem_cons, List.not_mem_nil, or_false, forall_eq_or_imp, forall_eq]; omega)
    unfold w_beg
    split
    · unfold w_settle
      refine ⟨fun q => ⟨by rw [pr_upk q, pr_upv (by decide), fF 25 (by omega)], by rw [pr_upv (by decide), pr_upk q, fF 23 (by omega)]⟩, ?_, Or.inl pr_upe⟩
      rw [pr_upv (by decide), pr_upe]; decide
    · refine ⟨fun q => ⟨by rw [pr_upv (by decide), pr_upv (by decide), pr_upv (by decide), pr_row_ne (by omega), fF 25 (by omega)], by rw [pr_upk q, pr_upv (by decide), pr_upv (by decide), pr_row_ne (by omega), fF 23 (by omega)]⟩, ?_, Or.inr (by rw [pr_upv (by decide), pr_upv (by decide), pr_upv (by decide), pr_row_ne (by omega), fF 25 (by omega)])⟩
      rw [pr_upe]; decide
  refine ⟨f 0 (by decide), f 18 (by decide), fun t ht => Or.inl ⟨by rw [tkn_c (f 9 (by decide))] at ht; exact ht, by rw [f 14 (by decide)], fun z => by rw [f 15 (by decide)] at z; exact z⟩, fun r' hr' => ⟨((c r').1 hr').1, ((c r').1 hr').2, by rw [f 30 (by decide)]⟩, fun z => absurd z (c 0).2.1, ?_⟩
  rcases (c 0).2.2 with q | q
  · exact Or.inl q
  · exact Or.inr (Or.inr q)
