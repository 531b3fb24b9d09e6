/-! A REQUEST'S TURN: what is kept stays -/
section JT1
variable {σ μ : pr_I}
theorem Jf.of0 {r : Nat} (j : Jd σ r) (hs : σ 23 r = 0) (hn : (σ 0 7).toInt ≤ (σ 25 r).toInt) (hp : (σ 33 r).toNatClampNeg ≤ (σ 32 r).toNatClampNeg) : Jf σ r := by
  obtain ⟨a, b, c⟩ := j.2.1 hs
  refine ⟨a, b, ?_⟩
  omega
theorem Jf.of1 {r : Nat} (j : Jd σ r) (hs : σ 23 r = 1) (hn : (σ 0 7).toInt ≤ (σ 25 r).toInt) : Jf σ r := by
  obtain ⟨a, b, c⟩ := j.2.2.1 hs
  refine ⟨a, b, ?_⟩
  omega
/-- a held ticket is confirmed -/
theorem J.conf (h : J σ) {t : Nat} (e : σ 15 t = 0) : J (pr_up σ 15 t 1) := by
  have k : ∀ o, o ≠ 15 → pr_up σ 15 t 1 o = σ o := fun o a => pr_up_ne a
  have n : tkn (pr_up σ 15 t 1) = tkn σ ∧ rqn (pr_up σ 15 t 1) = rqn σ ∧ lkn (pr_up σ 15 t 1) = lkn σ := ⟨tkn_c (k 9 (by decide)), rqn_c (k 18 (by decide)), by unfold lkn; rw [k 1 (by decide)]⟩
  have kk : ∀ t', tk_kp (pr_up σ 15 t 1) t' = tk_kp σ t' := fun t' => by
    unfold tk_kp
    by_cases q : t' = t
    · rw [q, pr_upe, e, if_pos rfl, if_pos rfl]; rfl
    · rw [pr_upk q]
  have e15 : ∀ t', pr_up σ 15 t 1 15 t' = 0 → σ 15 t' = 0 := fun t' z => by
    by_cases q : t' = t
    · rw [q]; exact e
    · rw [pr_upk q] at z; exact z
  refine ⟨fun t' ht => ?_, fun r hr => ?_, fun l hl => ?_⟩
  · rw [n.1] at ht
    obtain ⟨b1, b2, b3, b4, b5, b6, b7⟩ := h.1 t' ht
    unfold Jt
    rw [n.2.1, n.2.2, kk, k 10 (by decide), k 11 (by decide), k 12 (by decide), k 14 (by decide), k 16 (by decide), k 17 (by decide), k 21 (by decide)]
    refine ⟨b1, b2, b3, b4, b5, b6, fun z => b7.1 (e15 t' z), ?_⟩
    by_cases q : t' = t
    · rw [q, pr_upe]; exact nI_vin (k := 1) (by decide) (by decide)
    · rw [pr_upk q]; exact b7.2
  · rw [n.2.1] at hr
    obtain ⟨a1, a2, a3, a4, a5⟩ := h.2.1 r hr
    refine ⟨fun t' ht e' z => ?_, a2.cong n.2.2 (fun o ho => ?_) (k _ (by omega)) (by rw [k 32 (by decide)]) (fun z => ?_), a3.cong (by rw [k 119 (by decide)]) (fun o ho => ?_), ?_, a5.cong n.1 (fun o ho => ?_) (by rw [k 26 (by decide)]) (by rw [k 27 (by decide)])⟩
    · rw [n.1] at ht
      rw [k 10 (by decide)] at e'
      rw [kk] at z
      rw [k 23 (by decide)]
      exact a1 t' ht e' z
    · simp only [List.mem_cons, List.not_mem_nil, or_false] at ho
      exact k o (by omega)
    · rw [k 23 (by decide)] at z
      exact ⟨z, by rw [k 28 (by decide)]⟩
    · simp only [List.mem_cons, List.not_mem_nil, or_false] at ho
      rw [k o (by omega)]
    · unfold Js
      rw [k 21 (by decide), k 22 (by decide)]; exact a4
    · simp only [List.mem_cons, List.not_mem_nil, or_false] at ho
      exact k o (by omega)
  · rw [n.2.2] at hl
    rw [n.1, Pu_l (tkn σ) (fun t' _ => ⟨by rw [k 11 (by decide)], by rw [k 12 (by decide)], kk t'⟩), k 4 (by decide)]
    exact h.2.2 l hl
/-- state, due, end, place of one request move, nothing else -/
theorem J.four (h : J σ) {S : pr_I} {r : Nat} (hr : r < rqn σ) (h4 : rqn σ ≤ 40) (k : ∀ o, o ≠ 23 → o ≠ 25 → o ≠ 29 → o ≠ 30 → o ≠ 33 → S o = σ o) (ot : ∀ o r', r' ≠ r → S o r' = σ o r') (jk : Jk S r) (x : ¬ 3 ≤ S 23 r → ¬ 3 ≤ σ 23 r) (jd : Jd S r) : J S := by
  have ln : lkn S = lkn σ := by unfold lkn; rw [k 1 (by decide) (by decide) (by decide) (by decide) (by decide)]
  refine h.req (r := r) ⟨tkn_c (k 9 (by decide) (by decide) (by decide) (by decide) (by decide)), rqn_c (k 18 (by decide) (by decide) (by decide) (by decide) (by decide)), ln⟩ (fun o ho => ?_) (by rw [k 119 (by decide) (by decide) (by decide) (by decide) (by decide)]) (fun r' hr' => ⟨fun o _ => ot o r' hr', fun _ => k _ (by omega) (by omega) (by omega) (by omega) (by omega)⟩) h4 (fun _ => ⟨jk, (h.2.1 r hr).2.1.cong ln (fun o ho => ?_) (k _ (by omega) (by omega) (by omega) (by omega) (by omega)) (by rw [k 32 (by decide) (by decide) (by decide) (by decide) (by decide)]) (fun z => ⟨x z, by rw [k 28 (by decide) (by decide) (by decide) (by decide) (by decide)]⟩), jd⟩)
  · simp only [List.mem_cons, List.not_mem_nil, or_false] at ho
    exact k o (by omega) (by omega) (by omega) (by omega) (by omega)
  · simp only [List.mem_cons, List.not_mem_nil, or_false] at ho
    exact k o (by omega) (by omega) (by omega) (by omega) (by omega)
theorem J.f1 (h : J σ) (W : Wd σ μ) {r : Nat} (hr : r < rqn σ) (hs : σ 23 r = 0) (hd : σ 25 r = σ 0 7) : J (w_f1 σ r) := by
  have h4 := wI_nr4 W.cr.w
  have hL := vp_in_lt (W.cr.w 32 r 12 rfl)
  have hpv : σ 33 r = nI (σ 33 r).toNatClampNeg := vp_nI (W.cr.w 33 r 12 rfl) (by decide)
  have hlv : σ 32 r = nI (σ 32 r).toNatClampNeg := vp_nI (W.cr.w 32 r 12 rfl) (by decide)
  have hP := (W.sr hr).2.1 (Or.inl hs)
  have hle := hP.1
  have jd := (h.2.1 r hr).2.2.1
  have jf : Jf σ r := Jf.of0 jd hs (by rw [hd]; exact Int.le_refl _) hle
  have c1 : (σ 33 r < σ 32 r) ↔ (σ 33 r).toNatClampNeg < (σ 32 r).toNatClampNeg := by
    rw [hpv, hlv, nI_ltI (by omega) (by omega), nI_clamp (by omega), nI_clamp (by omega)]
  by_cases q1 : σ 33 r < σ 32 r
  · have hpa := W.pa r (σ 33 r).toNatClampNeg hr (c1.mp q1)
    have h24 := wI_nl24 W.cr.w
    have nx := vin_m1 hpa.2 (by omega)
    unfold w_f1
    by_cases b1 : lk_ux_r σ (σ (35 + r) (σ 33 r).toNatClampNeg) = 0
    · obtain ⟨w1, w2⟩ := fwd_bad (n := tkn σ) q1 (Or.inl b1)
      rw [w1, w2, if_neg nx]; exact h.fail W.se W.ti rfl h4 hr jf
    by_cases b2 : lk_ax_r σ (σ (35 + r) (σ 33 r).toNatClampNeg) < σ 21 r
    · obtain ⟨w1, w2⟩ := fwd_bad (n := tkn σ) q1 (Or.inr b2)
      rw [w1, w2, if_neg nx]; exact h.fail W.se W.ti rfl h4 hr jf
    by_cases b3 : σ 9 8 < 500
    · obtain ⟨w1, w2⟩ := fwd_go (n := tkn σ) q1 b1 b2 b3
      rw [w1, w2, if_pos rfl]
      have b3' : σ 9 8 < nI 500 := b3
      rw [wI_n W.cr.w] at b3'
      exact h.issue W hr ((nI_ltI (by have := wI_n5 W.cr.w; omega) (by decide)).mp b3') hs hd hpv (c1.mp q1) b2
    · obtain ⟨w1, w2⟩ := fwd_full (n := tkn σ) q1 b1 b2 b3
      rw [w1, w2, if_neg nx]; exact h.fail W.se W.ti rfl h4 hr jf
  · have w1 : w_fwd_r σ (tkn σ) r = -1 := by unfold w_fwd_r; rw [if_neg q1]
    have w2 : w_fwd σ (tkn σ) r = pr_up σ 23 r 1 := by unfold w_fwd; rw [if_neg q1]
    unfold w_f1
    rw [w1, w2, if_pos rfl]
    have k : ∀ o, o ≠ 23 → pr_up σ 23 r (1 : Int32) o = σ o := fun o a => pr_up_ne a
    have s : pr_up σ 23 r (1 : Int32) 23 r = 1 := pr_upe
    refine h.four hr h4 (fun o a _ _ _ _ => k o a) (fun o r' hr' => if_neg (fun z => hr' z.2)) (fun t _ _ _ => Or.inr (Or.inl s)) (fun _ => by rw [hs]; decide) ?_
    obtain ⟨d1, d2, d3⟩ := jd.2.1 hs
    have q2 : ¬ (σ 33 r).toNatClampNeg < (σ 32 r).toNatClampNeg := fun z => q1 (c1.mpr z)
    unfold Jd
    rw [s, k 24 (by decide), k 25 (by decide), k 119 (by decide), k 22 (by decide), k 33 (by decide)]
    exact ⟨fun z => absurd z (by decide), fun z => absurd z (by decide), fun _ => ⟨d1, d2, by omega⟩, fun z => absurd z (by decide)⟩
theorem J.b1 (h : J σ) (W : Wd σ μ) {r : Nat} (hr : r < rqn σ) (hs : σ 23 r = 1) (hd : σ 25 r = σ 0 7) : J (w_b1 σ r) := by
  have h4 := wI_nr4 W.cr.w
  have h24 := wI_nl24 W.cr.w
  have hL := vp_in_lt (W.cr.w 32 r 12 rfl)
  have hpv : σ 33 r = nI (σ 33 r).toNatClampNeg := vp_nI (W.cr.w 33 r 12 rfl) (by decide)
  have hP := (W.sr hr).2.1 (Or.inr hs)
  have hle := hP.1
  have jd := (h.2.1 r hr).2.2.1
  have js := (h.2.1 r hr).2.2.2.1
  have jf : Jf σ r := Jf.of1 jd hs (by rw [hd]; exact Int.le_refl _)
  obtain ⟨d1, d2, d3⟩ := jd.2.2.1 hs
  obtain ⟨t0, t1⟩ := W.ti
  rw [hd] at d3
  unfold w_b1
  by_cases q0 : (σ 33 r).toNatClampNeg = 0
  · have z : σ 33 r = 0 := by rw [hpv, q0]; rfl
    obtain ⟨w1, w2⟩ := back_0 (σ := σ) (r := r) z
    rw [w1, w2, if_pos rfl]
    unfold w_settle
    have k : ∀ o, o ≠ 23 → o ≠ 25 → o ≠ 29 → o ≠ 30 → pr_up (pr_up (pr_up (pr_up σ 29 r (σ 0 7)) 30 r (σ 0 7 + σ 22 r)) 23 r 2) 25 r (-1) o = σ o := fun o a b c d => by rw [pr_up_ne b, pr_up_ne a, pr_up_ne d, pr_up_ne c]
    have s23 : pr_up (pr_up (pr_up (pr_up σ 29 r (σ 0 7)) 30 r (σ 0 7 + σ 22 r)) 23 r 2) 25 r (-1) 23 r = 2 := by rw [pr_upv (by decide), pr_upe]
    have s30 : pr_up (pr_up (pr_up (pr_up σ 29 r (σ 0 7)) 30 r (σ 0 7 + σ 22 r)) 23 r 2) 25 r (-1) 30 r = σ 0 7 + σ 22 r := by rw [pr_upv (by decide), pr_upv (by decide), pr_upe]
    have e30 : (σ 0 7 + σ 22 r).toInt = (σ 0 7).toInt + (σ 22 r).toInt := i_add (by have := js.2; omega) (by have := js.2; omega)
    refine h.four hr h4 (fun o a b c d _ => k o a b c d) (fun o r' hr' => ?_) (fun t _ _ _ => Or.inr (Or.inr s23)) (fun _ => by rw [hs]; decide) ?_
    · have u : ∀ (ρ : pr_I) (o2 : Nat) (v : Int32), pr_up ρ o2 r v o r' = ρ o r' := fun ρ o2 v => if_neg (fun z => hr' z.2)
      rw [u, u, u, u]
    · unfold Jd
      rw [s23, s30, e30]
      exact ⟨fun z => absurd z (by decide), fun z => absurd z (by decide), fun z => absurd z (by decide), fun _ => by omega⟩
  · obtain ⟨q, hq⟩ : ∃ q, (σ 33 r).toNatClampNeg = q + 1 := ⟨(σ 33 r).toNatClampNeg - 1, by omega⟩
    have z : σ 33 r = nI (q + 1) := by rw [hpv, hq]
    have hpa := W.pa r q hr (by omega)
    obtain ⟨w1, w2⟩ := back_s (σ := σ) (r := r) z (by omega)
    rw [w1, w2]
    by_cases c : σ 15 (σ (76 + r) q).toNatClampNeg = 0
    · rw [if_pos c, if_pos c, if_pos rfl]
      have hx := (W.lk _ (vp_in_lt hpa.2)).2.2.2.2.1
      have hc := h.conf c
      have c15 : ∀ o, o ≠ 15 → pr_up σ 15 (σ (76 + r) q).toNatClampNeg 1 o = σ o := fun o a => pr_up_ne a
      generalize pr_up σ 15 (σ (76 + r) q).toNatClampNeg 1 = τ at *
      have k : ∀ o, o ≠ 33 → o ≠ 25 → pr_up (pr_up τ 33 r (nI q)) 25 r (σ 0 7 + σ 6 (σ (35 + r) q).toNatClampNeg) o = τ o := fun o b c => by rw [pr_up_ne c, pr_up_ne b]
      have s33 : pr_up (pr_up τ 33 r (nI q)) 25 r (σ 0 7 + σ 6 (σ (35 + r) q).toNatClampNeg) 33 r = nI q := by rw [pr_upv (by decide), pr_upe]
      have s25 : pr_up (pr_up τ 33 r (nI q)) 25 r (σ 0 7 + σ 6 (σ (35 + r) q).toNatClampNeg) 25 r = σ 0 7 + σ 6 (σ (35 + r) q).toNatClampNeg := pr_upe
      have e25 : (σ 0 7 + σ 6 (σ (35 + r) q).toNatClampNeg).toInt = (σ 0 7).toInt + (σ 6 (σ (35 + r) q).toNatClampNeg).toInt := i_add (by omega) (by omega)
      have rt : rqn τ = rqn σ := rqn_c (c15 18 (by decide))
      refine hc.four (r := r) (by omega) (by omega) (fun o _ b _ _ e => k o e b) (fun o r' hr' => ?_) (fun t _ _ _ => Or.inr (Or.inl (by rw [k 23 (by decide) (by decide), c15 23 (by decide)]; exact hs))) (fun z => ?_) ?_
      · have u : ∀ (ρ : pr_I) (o2 : Nat) (v : Int32), pr_up ρ o2 r v o r' = ρ o r' := fun ρ o2 v => if_neg (fun z => hr' z.2)
        rw [u, u]
      · rw [k 23 (by decide) (by decide)] at z; exact z
      · unfold Jd
        rw [k 23 (by decide) (by decide), c15 23 (by decide), k 24 (by decide) (by decide), c15 24 (by decide), k 119 (by decide) (by decide), c15 119 (by decide), k 22 (by decide) (by decide), c15 22 (by decide), s33, s25, e25, hs, nI_clamp (by omega)]
        exact ⟨fun z => absurd z (by decide), fun z => absurd z (by decide), fun _ => ⟨d1, d2, by omega⟩, fun z => absurd z (by decide)⟩
    · rw [if_neg c, if_neg c, if_neg (vin_m1 hpa.2 (by omega))]; exact h.fail W.se W.ti rfl h4 hr jf
theorem J.t1 (h : J σ) (W : Wd σ μ) {r : Nat} (hr : r < rqn σ) (hd : σ 25 r = σ 0 7) : J (w_t1 σ r) := by
  have hs := W.st hr hd
  unfold w_t1
  by_cases c7 : σ 23 r = 7
  · rw [if_pos c7]; exact h.beg W hr c7 hd
  · rw [if_neg c7]
    by_cases c0 : σ 23 r = 0
    · rw [if_pos c0]; exact h.f1 W hr c0 hd
    · rw [if_neg c0]; exact h.b1 W hr ((hs.resolve_left c0).resolve_right c7) hd
theorem J.it (h : J σ) (W : Wd σ μ) {r : Nat} (hr : r < rqn σ) : ∀ k, J (w_tr_it2 σ r k)
  | 0 => h
  | k + 1 => by
    have h4 := wI_nr4 W.cr.w
    have ih := J.it h W hr k
    rw [w_it_s]
    by_cases c : (w_tr_it2 σ r k) 25 r = σ 0 7
    · rw [if_pos c]
      exact ih.t1 (tr_lock W hr k).1 (by rw [rqn_c (it_18 (by omega))]; exact hr) (by rw [it_0 (by omega)]; exact c)
    · rw [if_neg c]; exact ih
theorem J.tr (h : J σ) (W : Wd σ μ) {r : Nat} (hr : r < rqn σ) : J (w_tr σ r) := h.it W hr _
end JT1
