theorem Opr.go {σ μ : pr_I} (h : Wd σ μ) {r p : Nat} {x : Int32} (hr : r < 40) (h5 : tkn σ < 500) (hd : 1 ≤ (σ 6 x.toNatClampNeg).toInt ∧ (σ 6 x.toNatClampNeg).toInt ≤ 50) (hs : σ 23 r = 0) : Opr σ (pr_up (pr_up (pr_up (w_issue σ (tkn σ) r x) (76 + r) p (nI (tkn σ))) 33 r (σ 33 r + 1)) 25 r (σ 0 7 + σ 6 x.toNatClampNeg)) r := by
  have f : ∀ o, (o < 7 ∨ o = 8 ∨ (17 < o ∧ o < 26) ∨ 26 < o) → w_issue σ (tkn σ) r x o = σ o := fun o ho => fr_w_issue (by simp only [List.mem_cons, List.not_mem_nil, or_false, forall_eq_or_imp, forall_eq]; omega)
  have k : ∀ o, o ≠ 25 → o ≠ 33 → o ≠ 76 + r → pr_up (pr_up (pr_up (w_issue σ (tkn σ) r x) (76 + r) p (nI (tkn σ))) 33 r (σ 33 r + 1)) 25 r (σ 0 7 + σ 6 x.toNatClampNeg) o = w_issue σ (tkn σ) r x o := fun o a b c => by rw [pr_up_ne a, pr_up_ne b, pr_up_ne c]
  have eT : w_issue σ (tkn σ) r x 9 8 = nI (tkn σ + 1) := by
    unfold w_issue
    rw [pr_upv (by decide), pr_upv (by decide), pr_upe]
  have e14 : ∀ t, w_issue σ (tkn σ) r x 14 t = if t = tkn σ then σ 0 7 + σ 119 0 else σ 14 t := fun t => by
    unfold w_issue
    rw [pr_upv (show (14 : Nat) ≠ 26 by decide), pr_upv (show (14 : Nat) ≠ 7 by decide), pr_upv (show (14 : Nat) ≠ 9 by decide), pr_upv (show (14 : Nat) ≠ 17 by decide), pr_upv (show (14 : Nat) ≠ 16 by decide), pr_upv (show (14 : Nat) ≠ 15 by decide)]
    by_cases q : t = tkn σ
    · rw [if_pos q, q, pr_upe]
    · rw [if_neg q, pr_upk q, pr_upv (show (14 : Nat) ≠ 13 by decide), pr_upv (show (14 : Nat) ≠ 12 by decide), pr_upv (show (14 : Nat) ≠ 11 by decide), pr_upv (show (14 : Nat) ≠ 10 by decide)]
  have e15 : ∀ t, t ≠ tkn σ → w_issue σ (tkn σ) r x 15 t = σ 15 t := fun t q => by
    unfold w_issue
    rw [pr_upv (show (15 : Nat) ≠ 26 by decide), pr_upv (show (15 : Nat) ≠ 7 by decide), pr_upv (show (15 : Nat) ≠ 9 by decide), pr_upv (show (15 : Nat) ≠ 17 by decide), pr_upv (show (15 : Nat) ≠ 16 by decide), pr_upk q, pr_upv (show (15 : Nat) ≠ 14 by decide), pr_upv (show (15 : Nat) ≠ 13 by decide), pr_upv (show (15 : Nat) ≠ 12 by decide), pr_upv (show (15 : Nat) ≠ 11 by decide), pr_upv (show (15 : Nat) ≠ 10 by decide)]
  refine ⟨?_, ?_, fun t ht => ?_, fun r' hr' => ⟨?_, ?_, ?_⟩, fun z => ?_, Or.inr (Or.inl ?_)⟩
  · rw [k 0 (by decide) (by decide) (by omega), f 0 (by omega)]
  · rw [k 18 (by decide) (by decide) (by omega), f 18 (by omega)]
  · rw [tkn_c (k 9 (by decide) (by decide) (by omega))] at ht
    have ht2 : t < tkn σ + 1 := by
      have : tkn (w_issue σ (tkn σ) r x) = tkn σ + 1 := by
        show (w_issue σ (tkn σ) r x 9 8).toNatClampNeg = _
        rw [eT, nI_clamp (by omega)]
      omega
    rw [k 14 (by decide) (by decide) (by omega), k 15 (by decide) (by decide) (by omega), e14]
    by_cases q : t = tkn σ
    · rw [if_pos q]
      exact Or.inr (now_lt h.ti h.se.1.1 (by have := h.se.1.2; omega))
    · rw [if_neg q, e15 t q]
      exact Or.inl ⟨by omega, rfl, id⟩
  · rw [pr_upk hr', pr_upv (by decide), pr_upv (by omega), f 25 (by omega)]
  · rw [k 23 (by decide) (by decide) (by omega), f 23 (by omega)]
  · rw [k 30 (by decide) (by decide) (by omega), f 30 (by omega)]
  · rw [k 23 (by decide) (by decide) (by omega), f 23 (by omega), hs] at z; exact absurd z (by decide)
  · rw [pr_upe]; exact now_lt h.ti hd.1 (by omega)
theorem Opr.f1 {σ μ : pr_I} (h : Wd σ μ) {r : Nat} (hr : r < rqn σ) (hs : σ 23 r = 0) : Opr σ (w_f1 σ r) r := by
  have h4 := wI_nr4 h.cr.w
  have hL := vp_in_lt (h.cr.w 32 r 12 rfl)
  have hpv : σ 33 r = nI (σ 33 r).toNatClampNeg := vp_nI (h.cr.w 33 r 12 rfl) (by decide)
  have hlv : σ 32 r = nI (σ 32 r).toNatClampNeg := vp_nI (h.cr.w 32 r 12 rfl) (by decide)
  have hP := (h.sr hr).2.1 (Or.inl hs)
  have hle := hP.1
  have c1 : (σ 33 r < σ 32 r) ↔ (σ 33 r).toNatClampNeg < (σ 32 r).toNatClampNeg := by
    rw [hpv, hlv, nI_ltI (by omega) (by omega), nI_clamp (by omega), nI_clamp (by omega)]
  by_cases q1 : σ 33 r < σ 32 r
  · have hpa := h.pa r (σ 33 r).toNatClampNeg hr (c1.mp q1)
    have h24 := wI_nl24 h.cr.w
    have nx := vin_m1 hpa.2 (by omega)
    have hd := (h.lk _ (vp_in_lt hpa.2)).2.2.2.2.1
    unfold w_f1
    by_cases b1 : lk_ux_r σ (σ (35 + r) (σ 33 r).toNatClampNeg) = 0
    · obtain ⟨w1, w2⟩ := fwd_bad (n := tkn σ) q1 (Or.inl b1)
      rw [w1, w2, if_neg nx]; exact Opr.fail h
    by_cases b2 : lk_ax_r σ (σ (35 + r) (σ 33 r).toNatClampNeg) < σ 21 r
    · obtain ⟨w1, w2⟩ := fwd_bad (n := tkn σ) q1 (Or.inr b2)
      rw [w1, w2, if_neg nx]; exact Opr.fail h
    by_cases b3 : σ 9 8 < 500
    · obtain ⟨w1, w2⟩ := fwd_go (n := tkn σ) q1 b1 b2 b3
      rw [w1, w2, if_pos rfl]
      have b3' : σ 9 8 < nI 500 := b3
      rw [wI_n h.cr.w] at b3'
      exact Opr.go h (by omega) ((nI_ltI (by have := wI_n5 h.cr.w; omega) (by decide)).mp b3') hd hs
    · obtain ⟨w1, w2⟩ := fwd_full (n := tkn σ) q1 b1 b2 b3
      rw [w1, w2, if_neg nx]; exact Opr.fail h
  · have w1 : w_fwd_r σ (tkn σ) r = -1 := by unfold w_fwd_r; rw [if_neg q1]
    have w2 : w_fwd σ (tkn σ) r = pr_up σ 23 r 1 := by unfold w_fwd; rw [if_neg q1]
    unfold w_f1
    rw [w1, w2, if_pos rfl]
    have k : ∀ o, o ≠ 23 → pr_up σ 23 r (1 : Int32) o = σ o := fun o a => pr_up_ne a
    refine ⟨k 0 (by decide), k 18 (by decide), fun t ht => Or.inl ⟨ht, by rw [k 14 (by decide)], fun z => by rw [k 15 (by decide)] at z; exact z⟩, fun r' hr' => ⟨by rw [k 25 (by decide)], pr_upk hr', by rw [k 30 (by decide)]⟩, fun z => ?_, Or.inr (Or.inr (by rw [k 25 (by decide)]))⟩
    rw [pr_upe] at z; exact absurd z (by decide)
theorem Opr.b1 {σ μ : pr_I} (h : Wd σ μ) {r : Nat} (hr : r < rqn σ) (hs : σ 23 r = 1) : Opr σ (w_b1 σ r) r := by
  have hL := vp_in_lt (h.cr.w 32 r 12 rfl)
  have h24 := wI_nl24 h.cr.w
  have hpv : σ 33 r = nI (σ 33 r).toNatClampNeg := vp_nI (h.cr.w 33 r 12 rfl) (by decide)
  have hP := (h.sr hr).2.1 (Or.inr hs)
  have hle := hP.1
  unfold w_b1
  by_cases q0 : (σ 33 r).toNatClampNeg = 0
  · have z : σ 33 r = 0 := by rw [hpv, q0]; rfl
    obtain ⟨w1, w2⟩ := back_0 (σ := σ) (r := r) z
    rw [w1, w2, if_pos rfl]
    unfold w_settle
    have k : ∀ o, o ≠ 23 → o ≠ 25 → o ≠ 29 → o ≠ 30 → pr_up (pr_up (pr_up (pr_up σ 29 r (σ 0 7)) 30 r (σ 0 7 + σ 22 r)) 23 r 2) 25 r (-1) o = σ o := fun o a b c d => by rw [pr_up_ne b, pr_up_ne a, pr_up_ne d, pr_up_ne c]
    have hq := (h.rq r hr).2.2.2.2
    refine ⟨k 0 (by decide) (by decide) (by decide) (by decide), k 18 (by decide) (by decide) (by decide) (by decide), fun t ht => Or.inl ⟨ht, by rw [k 14 (by decide) (by decide) (by decide) (by decide)], fun z => by rw [k 15 (by decide) (by decide) (by decide) (by decide)] at z; exact z⟩, fun r' hr' => ⟨by rw [pr_upk hr', pr_upv (by decide), pr_upv (by decide), pr_upv (by decide)], by rw [pr_upv (by decide), pr_upk hr', pr_upv (by decide), pr_upv (by decide)], by rw [pr_upv (by decide), pr_upv (by decide), pr_upk hr', pr_upv (by decide)]⟩, fun _ => Or.inr ?_, Or.inl pr_upe⟩
    rw [pr_upv (show (30 : Nat) ≠ 25 by decide), pr_upv (show (30 : Nat) ≠ 23 by decide), pr_upe]
    exact now_lt h.ti hq.1 (by omega)
  · obtain ⟨q, hq⟩ : ∃ q, (σ 33 r).toNatClampNeg = q + 1 := ⟨(σ 33 r).toNatClampNeg - 1, by omega⟩
    have z : σ 33 r = nI (q + 1) := by rw [hpv, hq]
    have hpa := h.pa r q hr (by omega)
    have hd := (h.lk _ (vp_in_lt hpa.2)).2.2.2.2.1
    obtain ⟨w1, w2⟩ := back_s (σ := σ) (r := r) z (by omega)
    rw [w1, w2]
    by_cases c : σ 15 (σ (76 + r) q).toNatClampNeg = 0
    · rw [if_pos c, if_pos c, if_pos rfl]
      have k : ∀ o, o ≠ 15 → o ≠ 33 → o ≠ 25 → pr_up (pr_up (pr_up σ 15 (σ (76 + r) q).toNatClampNeg 1) 33 r (nI q)) 25 r (σ 0 7 + σ 6 (σ (35 + r) q).toNatClampNeg) o = σ o := fun o a b c => by rw [pr_up_ne c, pr_up_ne b, pr_up_ne a]
      refine ⟨k 0 (by decide) (by decide) (by decide), k 18 (by decide) (by decide) (by decide), fun t ht => Or.inl ⟨ht, by rw [k 14 (by decide) (by decide) (by decide)], fun z => ?_⟩, fun r' hr' => ⟨by rw [pr_upk hr', pr_upv (by decide), pr_upv (by decide)], by rw [k 23 (by decide) (by decide) (by decide)], by rw [k 30 (by decide) (by decide) (by decide)]⟩, fun z => ?_, Or.inr (Or.inl ?_)⟩
      · rw [pr_upv (by decide), pr_upv (by decide)] at z
        by_cases e : t = (σ (76 + r) q).toNatClampNeg
        · rw [e, pr_upe] at z; exact absurd z (by decide)
        · rw [pr_upk e] at z; exact z
      · rw [k 23 (by decide) (by decide) (by decide), hs] at z; exact absurd z (by decide)
      · rw [pr_upe]; exact now_lt h.ti hd.1 (by omega)
    · rw [if_neg c, if_neg c, if_neg (vin_m1 hpa.2 (by omega))]; exact Opr.fail h
theorem Opr.t1 {σ μ : pr_I} (h : Wd σ μ) {r : Nat} (hr : r < rqn σ) (hd : σ 25 r = σ 0 7) : Opr σ (w_t1 σ r) r := by
  have h4 := wI_nr4 h.cr.w
  have hs := h.st hr hd
  unfold w_t1
  by_cases c7 : σ 23 r = 7
  · rw [if_pos c7]; exact Opr.beg (by omega) (by rw [c7]; decide)
  · rw [if_neg c7]
    by_cases c0 : σ 23 r = 0
    · rw [if_pos c0]; exact Opr.f1 h hr c0
    · rw [if_neg c0]; exact Opr.b1 h hr ((hs.resolve_left c0).resolve_right c7)
theorem Opr.it {σ μ : pr_I} (h : Wd σ μ) {r : Nat} (hr : r < rqn σ) : ∀ k, Opr σ (w_tr_it2 σ r k) r
  | 0 => Opr.rfl'
  | k + 1 => by
    have h4 := wI_nr4 h.cr.w
    have ih := Opr.it h hr k
    rw [w_it_s]
    by_cases c : (w_tr_it2 σ r k) 25 r = σ 0 7
    · rw [if_pos c]
      exact ih.trans (Opr.t1 (tr_lock h hr k).1 (by rw [rqn_c (it_18 (by omega))]; exact hr) (by rw [it_0 (by omega)]; exact c))
    · rw [if_neg c]; exact ih
theorem Opr.tr {σ μ : pr_I} (h : Wd σ μ) {r : Nat} (hr : r < rqn σ) : Opr σ (w_tr σ r) r := Opr.it h hr _
