/-! TIMES AT REST: all that is to come lies ahead -/
def Tk (σ : pr_I) : Prop := ∀ t, t < tkn σ → 0 ≤ (σ 14 t).toInt ∧ (σ 15 t = 0 → (σ 0 7).toInt < (σ 14 t).toInt)
def Ta (σ : pr_I) : Prop := ∀ r, r < rqn σ → σ 23 r = 2 → (σ 0 7).toInt < (σ 30 r).toInt
def Tm (σ : pr_I) : Prop := Tk σ ∧ Ta σ ∧ ∀ r, r < rqn σ → σ 25 r = -1 ∨ (σ 0 7).toInt < (σ 25 r).toInt
/-- nothing to come lies before T -/
def Tb (σ : pr_I) (T : Int32) : Prop := (∀ t, t < tkn σ → σ 15 t = 0 → T.toInt ≤ (σ 14 t).toInt) ∧ (∀ r, r < rqn σ → σ 23 r = 2 → T.toInt ≤ (σ 30 r).toInt) ∧ ∀ r, r < rqn σ → σ 25 r = -1 ∨ T.toInt ≤ (σ 25 r).toInt
theorem Tk.op {σ σ' : pr_I} {r : Nat} (h : Tk σ) (o : Opr σ σ' r) (h0 : 0 ≤ (σ 0 7).toInt) : Tk σ' := fun t ht => by
  rw [o.1]
  rcases o.2.2.1 t ht with ⟨a, b, c⟩ | a
  · rw [b]; exact ⟨(h t a).1, fun z => (h t a).2 (c z)⟩
  · exact ⟨by omega, fun _ => a⟩
theorem Ta.op {σ σ' : pr_I} {r : Nat} (h : Ta σ) (o : Opr σ σ' r) : Ta σ' := fun r' hr' z => by
  rw [rqn_c o.2.1] at hr'
  rw [o.1]
  by_cases q : r' = r
  · subst q
    rcases o.2.2.2.2.1 z with ⟨a, b⟩ | a
    · rw [b]; exact h r' hr' a
    · exact a
  · obtain ⟨_, b, c⟩ := o.2.2.2.1 r' q
    rw [b] at z
    rw [c]; exact h r' hr' z
theorem exp15 {σ : pr_I} {n t : Nat} : ∀ k, (w_exp_it2 σ n k) 15 t = 0 → σ 15 t = 0 ∧ (t < k → ¬ σ 14 t = σ 0 7)
  | 0, h => ⟨h, fun q => absurd q (by omega)⟩
  | k + 1, h => by
    have ih := exp15 (σ := σ) (n := n) (t := t) k
    rw [exp_s] at h
    by_cases c : (w_exp_it2 σ n k) 15 k = 0
    · rw [if_pos c] at h
      by_cases c2 : σ 14 k = σ 0 7
      · rw [if_pos c2] at h
        unfold w_rel at h
        rw [pr_upv (show (15 : Nat) ≠ 7 by decide), pr_upv (show (15 : Nat) ≠ 27 by decide), pr_upv (show (15 : Nat) ≠ 17 by decide)] at h
        by_cases q : t = k
        · rw [q, pr_upe] at h; exact absurd h (by decide)
        · rw [pr_upk q] at h
          exact ⟨(ih h).1, fun z => (ih h).2 (by omega)⟩
      · rw [if_neg c2] at h
        refine ⟨(ih h).1, fun z => ?_⟩
        by_cases q : t = k
        · rw [q]; exact c2
        · exact (ih h).2 (by omega)
    · rw [if_neg c] at h
      refine ⟨(ih h).1, fun z => ?_⟩
      by_cases q : t = k
      · rw [q] at h; exact absurd h c
      · exact (ih h).2 (by omega)
theorem settle_c {σ : pr_I} {r : Nat} {s : Int32} {o : Nat} (a : o ≠ 23) (b : o ≠ 25) : w_settle σ r s o = σ o := by
  unfold w_settle; rw [pr_up_ne b, pr_up_ne a]
theorem end_c {σ : pr_I} {n nr : Nat} : ∀ k, (∀ t, (w_end_it2 σ n nr k) 15 t = 0 → σ 15 t = 0) ∧ (∀ r, (w_end_it2 σ n nr k) 23 r = 2 → σ 23 r = 2 ∧ (r < k → ¬ σ 30 r = σ 0 7)) ∧ (∀ r, (w_end_it2 σ n nr k) 25 r = σ 25 r ∨ (w_end_it2 σ n nr k) 25 r = -1)
  | 0 => ⟨fun _ h => h, fun _ h => ⟨h, fun q => absurd q (by omega)⟩, fun _ => Or.inl rfl⟩
  | k + 1 => by
    obtain ⟨i1, i2, i3⟩ := end_c (σ := σ) (n := n) (nr := nr) k
    rw [end_s]
    have next : ¬ ((w_end_it2 σ n nr k) 23 k = 2 ∧ σ 30 k = σ 0 7) → ∀ r, (w_end_it2 σ n nr k) 23 r = 2 → σ 23 r = 2 ∧ (r < k + 1 → ¬ σ 30 r = σ 0 7) := fun c r h => by
      refine ⟨(i2 r h).1, fun z y => ?_⟩
      by_cases q : r = k
      · subst q; exact c ⟨h, y⟩
      · exact (i2 r h).2 (by omega) y
    by_cases c : (w_end_it2 σ n nr k) 23 k = 2
    · rw [if_pos c]
      by_cases c2 : σ 30 k = σ 0 7
      · rw [if_pos c2]
        refine ⟨fun t h => ?_, fun r h => ?_, fun r => ?_⟩
        · rw [settle_c (by decide) (by decide)] at h
          exact i1 t (ra15 n h)
        · unfold w_settle at h
          rw [pr_upv (show (23 : Nat) ≠ 25 by decide)] at h
          by_cases q : r = k
          · rw [q, pr_upe] at h; exact absurd h (by decide)
          · rw [pr_upk q, fr_w_ra (by decide)] at h
            exact ⟨(i2 r h).1, fun z => (i2 r h).2 (by omega)⟩
        · unfold w_settle
          by_cases q : r = k
          · rw [q, pr_upe]; exact Or.inr rfl
          · rw [pr_upk q, pr_upv (by decide), fr_w_ra (by decide)]; exact i3 r
      · rw [if_neg c2]; exact ⟨i1, next (fun z => c2 z.2), i3⟩
    · rw [if_neg c]; exact ⟨i1, next (fun z => c z.1), i3⟩
/-- behind an event all that is to come lies ahead again -/
theorem Tm.pn {σ μ μ' : pr_I} {T lat : Int32} (h : Wd σ μ) (tm : Tk σ) (tb : Tb σ T) (h0 : 0 ≤ T.toInt) (h1 : T.toInt ≤ 1100000) (eT : w_nt σ lat = T) (hm : pr_up μ' 1 0 (μ' 1 0 + 1) = pr_up μ 1 0 T) : Tm (w_pn σ lat) ∧ (w_pn σ lat) 0 7 = T ∧ rqn (w_pn σ lat) = rqn σ := by
  have h4 := wI_nr4 h.cr.w
  have EV := h.ev h0 h1 eT hm
  have base : w_pn_it34 σ lat 0 = w_end_it2 (w_exp_it2 (pr_up σ 0 7 T) (tkn σ) (tkn σ)) (tkn σ) (rqn σ) (rqn σ) := by
    rw [← eT]; rfl
  have f0 : ∀ k, k ≤ 40 → (w_pn_it34 σ lat k) 0 7 = T := fun k hk => by
    rw [fr_w_pn_it34 (by decide) (by omega) hk, fr_w_end (by decide), fr_w_exp (by decide), pr_upe]; exact eT
  have f18 : ∀ k, k ≤ 40 → (w_pn_it34 σ lat k) 18 = σ 18 := fun k hk => by
    rw [fr_w_pn_it34 (by decide) (by omega) hk, fr_w_end (by decide), fr_w_exp (by decide), pr_up_ne (by decide)]
  have fE : ∀ o, o ∈ ([0, 9, 14, 18, 23, 25, 30] : List Nat) → w_exp_it2 (pr_up σ 0 7 T) (tkn σ) (tkn σ) o = pr_up σ 0 7 T o := fun o ho => fr_w_exp_it2 (nin (A := [0, 9, 14, 18, 23, 25, 30]) (by decide) ho)
  have fN : ∀ o, o ∈ ([0, 9, 14, 18, 30] : List Nat) → (w_pn_it34 σ lat 0) o = pr_up σ 0 7 T o := fun o ho => by
    rw [base, fr_w_end_it2 (nin (A := [0, 9, 14, 18, 30]) (by decide) ho), fE o (by simp only [List.mem_cons, List.not_mem_nil, or_false] at ho ⊢; omega)]
  have L : ∀ k, k ≤ rqn σ → Tk (w_pn_it34 σ lat k) ∧ Ta (w_pn_it34 σ lat k) ∧ (∀ r, r < rqn σ → (w_pn_it34 σ lat k) 25 r = -1 ∨ T.toInt ≤ ((w_pn_it34 σ lat k) 25 r).toInt) ∧ ∀ r, r < k → (w_pn_it34 σ lat k) 25 r = -1 ∨ T.toInt < ((w_pn_it34 σ lat k) 25 r).toInt := by
    intro k
    induction k with
    | zero =>
      intro _
      have E := end_c (σ := w_exp_it2 (pr_up σ 0 7 T) (tkn σ) (tkn σ)) (n := tkn σ) (nr := rqn σ) (rqn σ)
      refine ⟨fun t ht => ?_, fun r hr z => ?_, fun r hr => ?_, fun r hr => absurd hr (by omega)⟩
      · rw [tkn_c (fN 9 (by decide))] at ht
        rw [fN 14 (by decide), f0 0 (by omega), pr_up_ne (by decide)]
        refine ⟨(tm t ht).1, fun z => ?_⟩
        rw [base] at z
        have x := exp15 (tkn σ) (E.1 t z)
        have y := tb.1 t ht x.1
        have w : ¬ σ 14 t = T := x.2 ht
        have : ¬ (σ 14 t).toInt = T.toInt := fun q => w (Int32.toInt_inj.mp q)
        omega
      · rw [rqn_c (fN 18 (by decide))] at hr
        rw [fN 30 (by decide), f0 0 (by omega), pr_up_ne (by decide)]
        rw [base] at z
        have x := E.2.1 r z
        rw [fE 23 (by decide), fE 30 (by decide), fE 0 (by decide), pr_up_ne (by decide), pr_up_ne (by decide), pr_upe] at x
        have y := tb.2.1 r hr x.1
        have w : ¬ σ 30 r = T := x.2 hr
        have : ¬ (σ 30 r).toInt = T.toInt := fun q => w (Int32.toInt_inj.mp q)
        omega
      · rw [base]
        rcases E.2.2 r with x | x
        · rw [x, fE 25 (by decide), pr_up_ne (by decide)]; exact tb.2.2 r hr
        · exact Or.inl x
    | succ k ih =>
      intro hk
      obtain ⟨i1, i2, i3, i4⟩ := ih (by omega)
      have rk : k < rqn (w_pn_it34 σ lat k) := by rw [rqn_c (f18 k (by omega))]; exact hk
      have op := Opr.tr (EV k (by omega)).1 rk
      have nd := ((EV (k + 1) hk).2 k (by omega)).2
      rw [← pn_s] at op
      have f0k := f0 k (by omega)
      refine ⟨i1.op op (by rw [f0k]; exact h0), i2.op op, fun r hr => ?_, fun r hr => ?_⟩
      · by_cases q : r = k
        · subst q
          rcases op.2.2.2.2.2 with x | x | x
          · exact Or.inl x
          · rw [f0k] at x; exact Or.inr (by omega)
          · rw [x]; exact i3 r hr
        · rw [(op.2.2.2.1 r q).1]; exact i3 r hr
      · by_cases q : r = k
        · subst q
          rcases op.2.2.2.2.2 with x | x | x
          · exact Or.inl x
          · rw [f0k] at x; exact Or.inr x
          · rcases i3 r (by omega) with y | y
            · exact Or.inl (x.trans y)
            · refine Or.inr ?_
              have : ¬ ((w_pn_it34 σ lat (r + 1)) 25 r).toInt = T.toInt := fun z => nd (Int32.toInt_inj.mp z)
              rw [x] at this ⊢
              omega
        · rw [(op.2.2.2.1 r q).1]; exact i4 r (by omega)
  have X := L (rqn σ) (Nat.le_refl _)
  unfold w_pn
  refine ⟨⟨X.1, X.2.1, fun r hr => ?_⟩, f0 _ h4, rqn_c (f18 _ h4)⟩
  rw [rqn_c (f18 _ h4)] at hr
  rw [f0 _ h4]; exact X.2.2.2 r hr
