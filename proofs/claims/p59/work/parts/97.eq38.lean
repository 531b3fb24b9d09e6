/-! UNITS OF TICKETS, ENDS OF THE ACTIVE: bounds that every move keeps -/
def Opx (σ σ' : pr_I) (r : Nat) : Prop := σ' 0 = σ 0 ∧ σ' 22 = σ 22 ∧ (∀ t, t < tkn σ' → (t < tkn σ ∧ σ' 12 t = σ 12 t) ∨ (0 ≤ (σ' 12 t).toInt ∧ (σ' 12 t).toInt ≤ 1000)) ∧ (σ' 23 r = 2 → (σ 23 r = 2 ∧ σ' 30 r = σ 30 r) ∨ (σ' 30 r).toInt ≤ (σ 0 7).toInt + (σ 22 r).toInt)
theorem Opx.rfl' {σ : pr_I} {r : Nat} : Opx σ σ r := ⟨rfl, rfl, fun _ ht => Or.inl ⟨ht, rfl⟩, fun h => Or.inl ⟨h, rfl⟩⟩
theorem Opx.trans {σ σ1 σ2 : pr_I} {r : Nat} (a : Opx σ σ1 r) (b : Opx σ1 σ2 r) : Opx σ σ2 r := by
  obtain ⟨a0, a22, at', ac⟩ := a
  obtain ⟨b0, b22, bt, bc⟩ := b
  rw [a0, a22] at bc
  refine ⟨b0.trans a0, b22.trans a22, fun t ht => ?_, fun h => ?_⟩
  · rcases bt t ht with ⟨x1, x2⟩ | x
    · rcases at' t x1 with ⟨y1, y2⟩ | y
      · exact Or.inl ⟨y1, x2.trans y2⟩
      · exact Or.inr (by rw [x2]; exact y)
    · exact Or.inr x
  · rcases bc h with ⟨x1, x2⟩ | x
    · rcases ac x1 with ⟨y1, y2⟩ | y
      · exact Or.inl ⟨y1, x2.trans y2⟩
      · exact Or.inr (by rw [x2]; exact y)
    · exact Or.inr x
theorem Opx.fail {σ : pr_I} {n r : Nat} {x : Int32} : Opx σ (w_fail σ n r x) r := by
  have f : ∀ o, o ∈ ([0, 9, 12, 22] : List Nat) → w_fail σ n r x o = σ o := fun o ho => fr_w_fail (nin (A := [0, 9, 12, 22]) (by decide) ho)
  refine ⟨f 0 (by decide), f 22 (by decide), fun t ht => Or.inl ⟨by rw [tkn_c (f 9 (by decide))] at ht; exact ht, by rw [f 12 (by decide)]⟩, fun z => ?_⟩
  rw [fail_23, if_pos rfl] at z
  split at z <;> exact absurd z (by decide)
theorem Opx.beg {σ : pr_I} {r : Nat} (hr : r < 40) : Opx σ (w_beg σ r) r := by
  have f : ∀ o, o ∈ ([0, 9, 12, 22] : List Nat) → w_beg σ r o = σ o := fun o ho => fr_w_beg (nin (A := [0, 9, 12, 22]) (by decide) ho) (by simp only [List.mem_cons, List.not_mem_nil, or_false] at ho; omega) hr
  have c : ¬ (w_beg σ r) 23 r = 2 := by
    unfold w_beg
    split
    · unfold w_settle
      rw [pr_upv (by decide), pr_upe]; decide
    · rw [pr_upe]; decide
  exact ⟨f 0 (by decide), f 22 (by decide), fun t ht => Or.inl ⟨by rw [tkn_c (f 9 (by decide))] at ht; exact ht, by rw [f 12 (by decide)]⟩, fun z => absurd z c⟩
theorem Opx.go {σ μ : pr_I} (h : Wd σ μ) {r p : Nat} {x : Int32} (hr : r < rqn σ) (h5 : tkn σ < 500) (hs : σ 23 r = 0) : Opx σ (pr_up (pr_up (pr_up (w_issue σ (tkn σ) r x) (76 + r) p (nI (tkn σ))) 33 r (σ 33 r + 1)) 25 r (σ 0 7 + σ 6 x.toNatClampNeg)) r := by
  have h4 := wI_nr4 h.cr.w
  have f : ∀ o, (o < 7 ∨ o = 8 ∨ (17 < o ∧ o < 26) ∨ 26 < o) → w_issue σ (tkn σ) r x o = σ o := fun o ho => fr_w_issue (by simp only [List.mem_cons, List.not_mem_nil, or_false, forall_eq_or_imp, forall_eq]; omega)
  have k : ∀ o, o ≠ 25 → o ≠ 33 → o ≠ 76 + r → pr_up (pr_up (pr_up (w_issue σ (tkn σ) r x) (76 + r) p (nI (tkn σ))) 33 r (σ 33 r + 1)) 25 r (σ 0 7 + σ 6 x.toNatClampNeg) o = w_issue σ (tkn σ) r x o := fun o a b c => by rw [pr_up_ne a, pr_up_ne b, pr_up_ne c]
  have eT : w_issue σ (tkn σ) r x 9 8 = nI (tkn σ + 1) := by
    unfold w_issue
    rw [pr_upv (by decide), pr_upv (by decide), pr_upe]
  have e12 : ∀ t, w_issue σ (tkn σ) r x 12 t = if t = tkn σ then σ 21 r else σ 12 t := fun t => by
    unfold w_issue
    rw [pr_upv (show (12 : Nat) ≠ 26 by decide), pr_upv (show (12 : Nat) ≠ 7 by decide), pr_upv (show (12 : Nat) ≠ 9 by decide), pr_upv (show (12 : Nat) ≠ 17 by decide), pr_upv (show (12 : Nat) ≠ 16 by decide), pr_upv (show (12 : Nat) ≠ 15 by decide), pr_upv (show (12 : Nat) ≠ 14 by decide), pr_upv (show (12 : Nat) ≠ 13 by decide)]
    by_cases q : t = tkn σ
    · rw [if_pos q, q, pr_upe]
    · rw [if_neg q, pr_upk q, pr_upv (show (12 : Nat) ≠ 11 by decide), pr_upv (show (12 : Nat) ≠ 10 by decide)]
  have hu := (h.rq r hr).2.2.2.1
  refine ⟨?_, ?_, fun t ht => ?_, fun z => ?_⟩
  · rw [k 0 (by decide) (by decide) (by omega), f 0 (by omega)]
  · rw [k 22 (by decide) (by decide) (by omega), f 22 (by omega)]
  · rw [tkn_c (k 9 (by decide) (by decide) (by omega))] at ht
    have ht2 : t < tkn σ + 1 := by
      have : tkn (w_issue σ (tkn σ) r x) = tkn σ + 1 := by
        show (w_issue σ (tkn σ) r x 9 8).toNatClampNeg = _
        rw [eT, nI_clamp (by omega)]
      omega
    rw [k 12 (by decide) (by decide) (by omega), e12]
    by_cases q : t = tkn σ
    · rw [if_pos q]; exact Or.inr ⟨by omega, hu.2⟩
    · rw [if_neg q]; exact Or.inl ⟨by omega, rfl⟩
  · rw [k 23 (by decide) (by decide) (by omega), f 23 (by omega), hs] at z; exact absurd z (by decide)
theorem Opx.f1 {σ μ : pr_I} (h : Wd σ μ) {r : Nat} (hr : r < rqn σ) (hs : σ 23 r = 0) : Opx σ (w_f1 σ r) r := by
  have hL := vp_in_lt (h.cr.w 32 r 12 rfl)
  have hpv : σ 33 r = nI (σ 33 r).toNatClampNeg := vp_nI (h.cr.w 33 r 12 rfl) (by decide)
  have hlv : σ 32 r = nI (σ 32 r).toNatClampNeg := vp_nI (h.cr.w 32 r 12 rfl) (by decide)
  have hP := (h.sr hr).2.1 (Or.inl hs)
  have hle := hP.1
  have c1 : (σ 33 r < σ 32 r) ↔ (σ 33 r).toNatClampNeg < (σ 32 r).toNatClampNeg := by
    rw [hpv, hlv, nI_ltI (by omega) (by omega), nI_clamp (by omega), nI_clamp (by omega)]
  by_cases q1 : σ 33 r < σ 32 r
  · have hpa := h.pa r (σ 33 r).toNatClampNeg hr (c1.mp q1)
    have h24 := wI_nl24 h.cr.w
    have nx := vin_m1 hpa.2 (by omega)
    unfold w_f1
    by_cases b1 : lk_ux_r σ (σ (35 + r) (σ 33 r).toNatClampNeg) = 0
    · obtain ⟨w1, w2⟩ := fwd_bad (n := tkn σ) q1 (Or.inl b1)
      rw [w1, w2, if_neg nx]; exact Opx.fail
    by_cases b2 : lk_ax_r σ (σ (35 + r) (σ 33 r).toNatClampNeg) < σ 21 r
    · obtain ⟨w1, w2⟩ := fwd_bad (n := tkn σ) q1 (Or.inr b2)
      rw [w1, w2, if_neg nx]; exact Opx.fail
    by_cases b3 : σ 9 8 < 500
    · obtain ⟨w1, w2⟩ := fwd_go (n := tkn σ) q1 b1 b2 b3
      rw [w1, w2, if_pos rfl]
      have b3' : σ 9 8 < nI 500 := b3
      rw [wI_n h.cr.w] at b3'
      exact Opx.go h hr ((nI_ltI (by have := wI_n5 h.cr.w; omega) (by decide)).mp b3') hs
    · obtain ⟨w1, w2⟩ := fwd_full (n := tkn σ) q1 b1 b2 b3
      rw [w1, w2, if_neg nx]; exact Opx.fail
  · have w1 : w_fwd_r σ (tkn σ) r = -1 := by unfold w_fwd_r; rw [if_neg q1]
    have w2 : w_fwd σ (tkn σ) r = pr_up σ 23 r 1 := by unfold w_fwd; rw [if_neg q1]
    unfold w_f1
    rw [w1, w2, if_pos rfl]
    have k : ∀ o, o ≠ 23 → pr_up σ 23 r (1 : Int32) o = σ o := fun o a => pr_up_ne a
    refine ⟨k 0 (by decide), k 22 (by decide), fun t ht => Or.inl ⟨ht, by rw [k 12 (by decide)]⟩, fun z => ?_⟩
    rw [pr_upe] at z; exact absurd z (by decide)
theorem Opx.b1 {σ μ : pr_I} (h : Wd σ μ) {r : Nat} (hr : r < rqn σ) (hs : σ 23 r = 1) : Opx σ (w_b1 σ r) r := by
  have hL := vp_in_lt (h.cr.w 32 r 12 rfl)
  have h24 := wI_nl24 h.cr.w
  have hpv : σ 33 r = nI (σ 33 r).toNatClampNeg := vp_nI (h.cr.w 33 r 12 rfl) (by decide)
  have hP := (h.sr hr).2.1 (Or.inr hs)
  have hle := hP.1
  unfold w_b1
  by_cases q0 : (σ 33 r).toNatClampNeg = 0
  · have z : σ 33 r = 0 := by rw [hpv, q0]; rfl
    obtain ⟨w1, w2⟩ := back_0 (σ := σ) (r := r) z
    rw [w1, w2, if_pos rfl]
    unfold w_settle
    have k : ∀ o, o ≠ 23 → o ≠ 25 → o ≠ 29 → o ≠ 30 → pr_up (pr_up (pr_up (pr_up σ 29 r (σ 0 7)) 30 r (σ 0 7 + σ 22 r)) 23 r 2) 25 r (-1) o = σ o := fun o a b c d => by rw [pr_up_ne b, pr_up_ne a, pr_up_ne d, pr_up_ne c]
    have hq := (h.rq r hr).2.2.2.2
    have t0 := h.ti.1
    have t1 := h.ti.2
    refine ⟨k 0 (by decide) (by decide) (by decide) (by decide), k 22 (by decide) (by decide) (by decide) (by decide), fun t ht => Or.inl ⟨ht, by rw [k 12 (by decide) (by decide) (by decide) (by decide)]⟩, fun _ => Or.inr ?_⟩
    rw [pr_upv (show (30 : Nat) ≠ 25 by decide), pr_upv (show (30 : Nat) ≠ 23 by decide), pr_upe, i_add (by omega) (by omega)]
    exact Int.le_refl _
  · obtain ⟨q, hq⟩ : ∃ q, (σ 33 r).toNatClampNeg = q + 1 := ⟨(σ 33 r).toNatClampNeg - 1, by omega⟩
    have z : σ 33 r = nI (q + 1) := by rw [hpv, hq]
    have hpa := h.pa r q hr (by omega)
    obtain ⟨w1, w2⟩ := back_s (σ := σ) (r := r) z (by omega)
    rw [w1, w2]
    by_cases c : σ 15 (σ (76 + r) q).toNatClampNeg = 0
    · rw [if_pos c, if_pos c, if_pos rfl]
      have k : ∀ o, o ≠ 15 → o ≠ 33 → o ≠ 25 → pr_up (pr_up (pr_up σ 15 (σ (76 + r) q).toNatClampNeg 1) 33 r (nI q)) 25 r (σ 0 7 + σ 6 (σ (35 + r) q).toNatClampNeg) o = σ o := fun o a b c => by rw [pr_up_ne c, pr_up_ne b, pr_up_ne a]
      refine ⟨k 0 (by decide) (by decide) (by decide), k 22 (by decide) (by decide) (by decide), fun t ht => Or.inl ⟨ht, by rw [k 12 (by decide) (by decide) (by decide)]⟩, fun z => ?_⟩
      rw [k 23 (by decide) (by decide) (by decide), hs] at z; exact absurd z (by decide)
    · rw [if_neg c, if_neg c, if_neg (vin_m1 hpa.2 (by omega))]; exact Opx.fail
theorem Opx.t1 {σ μ : pr_I} (h : Wd σ μ) {r : Nat} (hr : r < rqn σ) (hd : σ 25 r = σ 0 7) : Opx σ (w_t1 σ r) r := by
  have h4 := wI_nr4 h.cr.w
  have hs := h.st hr hd
  unfold w_t1
  by_cases c7 : σ 23 r = 7
  · rw [if_pos c7]; exact Opx.beg (by omega)
  · rw [if_neg c7]
    by_cases c0 : σ 23 r = 0
    · rw [if_pos c0]; exact Opx.f1 h hr c0
    · rw [if_neg c0]; exact Opx.b1 h hr ((hs.resolve_left c0).resolve_right c7)
theorem Opx.it {σ μ : pr_I} (h : Wd σ μ) {r : Nat} (hr : r < rqn σ) : ∀ k, Opx σ (w_tr_it2 σ r k) r
  | 0 => Opx.rfl'
  | k + 1 => by
    have h4 := wI_nr4 h.cr.w
    have ih := Opx.it h hr k
    rw [w_it_s]
    by_cases c : (w_tr_it2 σ r k) 25 r = σ 0 7
    · rw [if_pos c]
      exact ih.trans (Opx.t1 (tr_lock h hr k).1 (by rw [rqn_c (it_18 (by omega))]; exact hr) (by rw [it_0 (by omega)]; exact c))
    · rw [if_neg c]; exact ih
theorem Opx.tr {σ μ : pr_I} (h : Wd σ μ) {r : Nat} (hr : r < rqn σ) : Opx σ (w_tr σ r) r := Opx.it h hr _
/-- the bounds -/
def Tx (σ : pr_I) : Prop := (∀ t, t < tkn σ → 0 ≤ (σ 12 t).toInt ∧ (σ 12 t).toInt ≤ 1000) ∧ ∀ r, r < rqn σ → σ 23 r = 2 → (σ 30 r).toInt ≤ (σ 0 7).toInt + (σ 22 r).toInt
theorem Tx.op {σ σ' : pr_I} {r : Nat} (h : Tx σ) (o : Opr σ σ' r) (x : Opx σ σ' r) : Tx σ' := by
  refine ⟨fun t ht => ?_, fun r' hr' z => ?_⟩
  · rcases x.2.2.1 t ht with ⟨a, b⟩ | a
    · rw [b]; exact h.1 t a
    · exact a
  · rw [rqn_c o.2.1] at hr'
    rw [x.1, x.2.1]
    by_cases q : r' = r
    · subst q
      rcases x.2.2.2 z with ⟨a, b⟩ | a
      · rw [b]; exact h.2 r' hr' a
      · exact a
    · obtain ⟨_, b, c⟩ := o.2.2.2.1 r' q
      rw [b] at z
      rw [c]; exact h.2 r' hr' z
