/-! EVENTS, TIME, REQUESTS, CLOSINGS: what is kept stays -/
section JEV
variable {σ μ : pr_I}
theorem J.time (h : J σ) (h4 : rqn σ ≤ 40) {v : Int32} : J (pr_up σ 0 7 v) := by
  have k : ∀ o, o ≠ 0 → pr_up σ 0 7 v o = σ o := fun o a => pr_up_ne a
  refine h.cong ⟨tkn_c (k 9 (by decide)), rqn_c (k 18 (by decide)), by unfold lkn; rw [k 1 (by decide)]⟩ (fun o ho => ?_) (by rw [k 119 (by decide)]) (fun r _ => k _ (by omega)) h4
  simp only [List.mem_cons, List.not_mem_nil, or_false] at ho
  exact k o (by omega)
theorem J.exp (h : J σ) (se : Se σ) (h4 : rqn σ ≤ 40) {n : Nat} : ∀ k, k ≤ tkn σ → J (w_exp_it2 σ n k)
  | 0, _ => h
  | k + 1, hk => by
    have ih := J.exp h se h4 (n := n) k (by omega)
    have f : ∀ o, o ≠ 7 → o ≠ 15 → o ≠ 17 → o ≠ 27 → w_exp_it2 σ n k o = σ o := fun o a b c d => fr_w_exp_it2 (by simp only [List.mem_cons, List.not_mem_nil, or_false, forall_eq_or_imp, forall_eq]; omega)
    rw [exp_s]
    by_cases c : (w_exp_it2 σ n k) 15 k = 0
    · rw [if_pos c]
      by_cases c2 : σ 14 k = σ 0 7
      · rw [if_pos c2]
        have ht : k < tkn σ := by omega
        obtain ⟨p0, p1⟩ := h.pc ht
        obtain ⟨_, _, _, ⟨s1, s2⟩, _⟩ := se
        have m0 : 0 ≤ (σ 16 k).toInt * (σ 119 3).toInt := Int.mul_nonneg p0 s1
        have m1 : (σ 16 k).toInt * (σ 119 3).toInt ≤ (σ 16 k).toInt * 100 := Int.mul_le_mul_of_nonneg_left s2 p0
        have e1 : (σ 16 k * σ 119 3).toInt = (σ 16 k).toInt * (σ 119 3).toInt := i_mul (by omega) (by omega)
        have e2 : (σ 16 k * σ 119 3 / 100).toInt = (σ 16 k).toInt * (σ 119 3).toInt / 100 := by
          rw [i_div (by rw [e1]; exact m0) (by decide), e1]; rfl
        have g0 : 0 ≤ (σ 16 k).toInt * (σ 119 3).toInt / 100 := Int.ediv_nonneg m0 (by decide)
        have g1 : (σ 16 k).toInt * (σ 119 3).toInt / 100 ≤ (σ 16 k).toInt := by
          refine Int.le_trans (Int.ediv_le_ediv (by decide) m1) ?_
          rw [Int.mul_ediv_cancel _ (by decide)]
          exact Int.le_refl _
        refine ih.rel (by rw [tkn_c (f 9 (by decide) (by decide) (by decide) (by decide))]; exact ht) (kpt_iff.mpr (Or.inl c)) (nI_vin (k := 2) (by decide) (by decide)) (by decide) (by decide) (by rw [e2]; exact g0) (by rw [e2, f 16 (by decide) (by decide) (by decide) (by decide)]; exact g1) (by rw [rqn_c (f 18 (by decide) (by decide) (by decide) (by decide))]; exact h4)
      · rw [if_neg c2]; exact ih
    · rw [if_neg c]; exact ih
theorem J.end (h : J σ) (h4 : rqn σ ≤ 40) {nr : Nat} : ∀ k, k ≤ rqn σ → J (w_end_it2 σ (tkn σ) nr k)
  | 0, _ => h
  | k + 1, hk => by
    have ih := J.end h h4 (nr := nr) k (by omega)
    have f : ∀ o, o ≠ 7 → o ≠ 15 → o ≠ 17 → o ≠ 23 → o ≠ 25 → o ≠ 27 → w_end_it2 σ (tkn σ) nr k o = σ o := fun o a b c d e g => fr_w_end_it2 (by simp only [List.mem_cons, List.not_mem_nil, or_false, forall_eq_or_imp, forall_eq]; omega)
    have nt : tkn (w_end_it2 σ (tkn σ) nr k) = tkn σ := tkn_c (f 9 (by decide) (by decide) (by decide) (by decide) (by decide) (by decide))
    have nr' : rqn (w_end_it2 σ (tkn σ) nr k) = rqn σ := rqn_c (f 18 (by decide) (by decide) (by decide) (by decide) (by decide) (by decide))
    rw [end_s]
    generalize w_end_it2 σ (tkn σ) nr k = τ at *
    by_cases c : τ 23 k = 2
    · rw [if_pos c]
      by_cases c2 : σ 30 k = σ 0 7
      · rw [if_pos c2]
        unfold w_settle
        have u : ∀ r', r' ≠ k → ∀ (ρ : pr_I) (o o2 : Nat) (v : Int32), pr_up ρ o2 k v o r' = ρ o r' := fun r' hr ρ o o2 v => if_neg (fun z => hr z.2)
        refine ih.drop (r := k) (n := tkn σ) (a := 1) (b := 1) (p := 0) (s := 3) nt.symm (by omega) (by omega) (fun t ht _ => ih.am1 (by decide) (by decide) ht) (fun o a b _ _ => by rw [pr_up_ne b, pr_up_ne a]; rfl) (fun o r' hr' _ => by rw [u r' hr', u r' hr']; rfl) (by rw [pr_upv (by decide), pr_upe]) (by decide) (by decide)
      · rw [if_neg c2]; exact ih
    · rw [if_neg c]; exact ih
theorem J.ev {μ' : pr_I} {T lat : Int32} (j : J σ) (h : Wd σ μ) (h0 : 0 ≤ T.toInt) (h1 : T.toInt ≤ 1100000) (eT : w_nt σ lat = T) (hm : pr_up μ' 1 0 (μ' 1 0 + 1) = pr_up μ 1 0 T) : J (w_pn σ lat) := by
  have h4 := wI_nr4 h.cr.w
  have EV := h.ev h0 h1 eT hm
  have base : w_pn_it34 σ lat 0 = w_end_it2 (w_exp_it2 (pr_up σ 0 7 T) (tkn σ) (tkn σ)) (tkn σ) (rqn σ) (rqn σ) := by
    rw [← eT]; rfl
  have f18 : ∀ k, k ≤ 40 → (w_pn_it34 σ lat k) 18 = σ 18 := fun k hk => by
    rw [fr_w_pn_it34 (by decide) (by omega) hk, fr_w_end (by decide), fr_w_exp (by decide), pr_up_ne (by decide)]
  have k0 : ∀ o, o ≠ 0 → pr_up σ 0 7 T o = σ o := fun o a => pr_up_ne a
  have B : J (w_pn_it34 σ lat 0) := by
    have j0 := j.time h4 (v := T)
    have se0 : Se (pr_up σ 0 7 T) := by unfold Se; rw [k0 119 (by decide)]; exact h.se
    have j1 := j0.exp se0 (by rw [rqn_c (k0 18 (by decide))]; exact h4) (n := tkn σ) (tkn σ) (by rw [tkn_c (k0 9 (by decide))]; exact Nat.le_refl _)
    have nt : tkn (w_exp_it2 (pr_up σ 0 7 T) (tkn σ) (tkn σ)) = tkn σ := tkn_c ((fr_w_exp_it2 (by decide)).trans (k0 9 (by decide)))
    have nr : rqn (w_exp_it2 (pr_up σ 0 7 T) (tkn σ) (tkn σ)) = rqn σ := rqn_c ((fr_w_exp_it2 (by decide)).trans (k0 18 (by decide)))
    have j2 := j1.end (by rw [nr]; exact h4) (nr := rqn σ) (rqn σ) (by rw [nr]; exact Nat.le_refl _)
    rw [nt] at j2
    rw [base]; exact j2
  have L : ∀ k, k ≤ rqn σ → J (w_pn_it34 σ lat k) := by
    intro k
    induction k with
    | zero => intro _; exact B
    | succ k ih =>
      intro hk
      rw [pn_s]
      exact (ih (by omega)).tr (EV k (by omega)).1 (by rw [rqn_c (f18 k (by omega))]; exact hk)
  exact L (rqn σ) (Nat.le_refl _)
theorem J.one {lat : Int32} (j : J σ) (h : Wd σ μ) (tm : Tm σ) (hl : (σ 0 7).toInt < lat.toInt) (hlat : lat.toInt ≤ 1100000) : J (w_pn σ lat) := by
  have t0 := h.ti.1
  have h4 := wI_nr4 h.cr.w
  obtain ⟨_, P⟩ := nt_p h tm hl
  rcases P with ⟨p1, p2, p3, p4, p5⟩ | ⟨p1, p2, p3, p4, p5⟩
  · rw [pn_idle (by omega) p2 p3 p4 p5]
    exact j.time h4
  · have hm : pr_up (pr_up μ 1 0 (m_ne_r μ - 1)) 1 0 ((pr_up μ 1 0 (m_ne_r μ - 1)) 1 0 + 1) = pr_up μ 1 0 (m_ne_r μ) := by
      rw [pr_upe, pr_up_two, Int32.sub_add_cancel]
    exact j.ev h (T := m_ne_r μ) (by omega) (by omega) p4 hm
theorem J.pass {lat : Int32} (hlat : lat.toInt ≤ 1100000) : ∀ (K : Nat) (σ μ : pr_I), Wd σ μ → Tm σ → Tx σ → J σ → J (w_pt_it2 σ lat K)
  | 0, σ, _, _, _, _, j => j
  | K + 1, σ, μ, h, tm, tx, j => by
    by_cases c : lat ≤ σ 0 7
    · rw [pt_stay c]; exact j
    · rw [pt_shift c]
      have c' : (σ 0 7).toInt < lat.toInt := by rw [le_i] at c; omega
      obtain ⟨μ', a, b, d, _, _⟩ := WX1 h tm tx c' hlat
      exact J.pass hlat K _ μ' a b d (j.one h tm c' hlat)
theorem S32_0 {r c : Nat} : ∀ n, (∀ t, t < n → ¬ σ 10 t = nI r) → S32 σ r c n = 0
  | 0, _ => rfl
  | n + 1, h => by rw [S32, S32_0 n (fun t ht => h t (by omega)), if_neg (h n (by omega)), Int32.add_zero]
theorem J.mk {s t u q : Int32} (j : J σ) (h : Wd σ μ) (hr : rqn σ < 40) (hs : vp_in s (ndn σ)) (ht : vp_in t (ndn σ)) (hne : s ≠ t) (hu : 1 ≤ u.toInt ∧ u.toInt ≤ 1000) (hq : 1 ≤ q.toInt ∧ q.toInt ≤ 60) (hn : (σ 0 7).toInt ≤ 240) : J (w_mk σ s t u q) := by
  obtain ⟨A, nr, _⟩ := h.ask hr hs ht hne hu ⟨hq.1, by omega⟩
  have k : ∀ o, o < 18 ∨ 33 < o → rq_add σ (rqn σ) s t u q (σ 0 7) o = σ o := fun o ho => fr_rq_add (by simp only [List.mem_cons, List.not_mem_nil, or_false, forall_eq_or_imp, forall_eq]; omega)
  have ro : ∀ o r, 18 < o → r ≠ rqn σ → rq_add σ (rqn σ) s t u q (σ 0 7) o r = σ o r := fun o r a b => rq_out (by omega) b
  have c40 : nI (rqn σ) < nI 40 := (nI_ltI (by omega) (by decide)).mpr hr
  have x21 : rq_add σ (rqn σ) s t u q (σ 0 7) 21 (rqn σ) = u := rq_in (c := 2) (by decide)
  have x22 : rq_add σ (rqn σ) s t u q (σ 0 7) 22 (rqn σ) = q := rq_in (c := 3) (by decide)
  have x23 : rq_add σ (rqn σ) s t u q (σ 0 7) 23 (rqn σ) = 7 := rq_in (c := 4) (by decide)
  have x24 : rq_add σ (rqn σ) s t u q (σ 0 7) 24 (rqn σ) = 0 := rq_in (c := 5) (by decide)
  have x25 : rq_add σ (rqn σ) s t u q (σ 0 7) 25 (rqn σ) = σ 0 7 := rq_in (c := 6) (by decide)
  have x26 : rq_add σ (rqn σ) s t u q (σ 0 7) 26 (rqn σ) = 0 := rq_in (c := 7) (by decide)
  have x27 : rq_add σ (rqn σ) s t u q (σ 0 7) 27 (rqn σ) = 0 := rq_in (c := 8) (by decide)
  have x32 : rq_add σ (rqn σ) s t u q (σ 0 7) 32 (rqn σ) = 0 := rq_in (c := 13) (by decide)
  have B : J (rq_add σ (rqn σ) s t u q (σ 0 7)) := by
    have nt : tkn (rq_add σ (rqn σ) s t u q (σ 0 7)) = tkn σ := tkn_c (k 9 (by omega))
    have nl : lkn (rq_add σ (rqn σ) s t u q (σ 0 7)) = lkn σ := by unfold lkn; rw [k 1 (by omega)]
    have none' : ∀ i, i < tkn σ → ¬ σ 10 i = nI (rqn σ) := fun i hi z => by
      have := vp_in_lt (j.1 i hi).1
      rw [z, nI_clamp (by omega)] at this
      omega
    generalize rq_add σ (rqn σ) s t u q (σ 0 7) = S at *
    refine ⟨fun i hi => ?_, fun r hr' => ?_, fun l hl => ?_⟩
    · rw [nt] at hi
      obtain ⟨b1, b2, b3, b4, b5, b6, b7⟩ := j.1 i hi
      have lt := vp_in_lt b1
      unfold Jt
      rw [nr, nl, kp_c (k 15 (by omega)), k 10 (by omega), k 11 (by omega), k 12 (by omega), k 14 (by omega), k 15 (by omega), k 16 (by omega), k 17 (by omega), ro 21 _ (by decide) (by omega)]
      exact ⟨vp_in_mono b1 (by omega), b2, b3, b4, b5, b6, b7⟩
    · rw [nr] at hr'
      by_cases e : r = rqn σ
      · subst e
        have se := h.se
        obtain ⟨_, _, ⟨e1, e2⟩, _⟩ := se
        have pl0 : pln S (rqn σ) = 0 := by unfold pln; rw [x32]; rfl
        refine ⟨fun i hi z _ => ?_, ⟨fun p hp => by rw [pl0] at hp; exact absurd hp (Nat.not_lt_zero p), fun z => absurd pl0 z⟩, ?_, ?_, ?_, ?_⟩
        · rw [nt] at hi
          rw [k 10 (by omega)] at z
          exact absurd z (none' i hi)
        · unfold Jd
          rw [x23, x24, x25, x22, k 119 (by omega)]
          have z0 : (0 : Int32).toInt = 0 := rfl
          have t0 := h.ti.1
          rw [z0]
          exact ⟨fun _ => ⟨Int.le_refl _, by omega, by omega, t0⟩, fun z => absurd z (by decide), fun z => absurd z (by decide), fun z => absurd z (by decide)⟩
        · unfold Js
          rw [x21, x22]; exact ⟨hu, hq⟩
        · rw [x26, nt, S32_c (k 10 (by omega)) (k 16 (by omega)), S32_0 _ none']
        · rw [x27, nt, S32_c (k 10 (by omega)) (k 17 (by omega)), S32_0 _ none']
      · obtain ⟨a1, a2, a3, a4, a5⟩ := j.2.1 r (by omega)
        refine ⟨fun i hi z w => ?_, ?_, a3.cong (by rw [k 119 (by omega)]) (fun o ho => ?_), ?_, a5.cong nt (fun o ho => ?_) (ro 26 r (by decide) e) (ro 27 r (by decide) e)⟩
        · rw [nt] at hi
          rw [k 10 (by omega)] at z
          rw [kp_c (k 15 (by omega))] at w
          rw [ro 23 r (by decide) e]
          exact a1 i hi z w
        · have el : pln S r = pln σ r := by unfold pln; rw [ro 32 r (by decide) e]
          have er : ∀ p, rnd S r p = rnd σ r p := fun p => by
            cases p with
            | zero => exact ro 19 r (by decide) e
            | succ p => show S 3 _ = σ 3 _; rw [k 3 (by omega), k (35 + r) (by omega)]
          refine ⟨fun p hp => ?_, fun z => ?_⟩
          · rw [el] at hp
            obtain ⟨c1, c2, c3⟩ := a2.1 p hp
            rw [nl, k (35 + r) (by omega), k 2 (by omega), er, ro 23 r (by decide) e, ro 28 r (by decide) e]
            exact ⟨c1, c2, c3⟩
          · rw [el] at z ⊢
            rw [er, ro 20 r (by decide) e]
            exact a2.2 z
        · simp only [List.mem_cons, List.not_mem_nil, or_false] at ho
          exact ro o r (by omega) e
        · unfold Js
          rw [ro 21 r (by decide) e, ro 22 r (by decide) e]; exact a4
        · simp only [List.mem_cons, List.not_mem_nil, or_false] at ho
          exact k o (by omega)
    · rw [nl] at hl
      rw [nt, Pu_l (tkn σ) (fun i _ => ⟨by rw [k 11 (by omega)], by rw [k 12 (by omega)], kp_c (k 15 (by omega)) i⟩), k 4 (by omega)]
      exact j.2.2 l hl
  unfold w_mk
  rw [if_pos c40]
  exact B.tr A (r := rqn σ) (by omega)
theorem has_t {h p : Int32} : ∀ j k, ¬ tk_has σ h p j k = 0 → ∃ t, t < k + j ∧ σ 10 t = h ∧ ¬ tk_kp σ t = 0
  | 0, k, z => absurd rfl z
  | j + 1, k, z => by
    have nx : ¬ tk_has σ h p j (k + 1) = 0 → ∃ t, t < k + (j + 1) ∧ σ 10 t = h ∧ ¬ tk_kp σ t = 0 := fun w => by
      obtain ⟨t, a, b, c⟩ := has_t j (k + 1) w
      exact ⟨t, by omega, b, c⟩
    rw [tk_has] at z
    by_cases c1 : σ 10 k = h
    · rw [if_pos c1] at z
      by_cases c2 : σ 11 k = p
      · rw [if_pos c2] at z
        by_cases c3 : tk_kp σ k = 0
        · rw [if_pos c3] at z; exact nx z
        · exact ⟨k, by omega, c1, c3⟩
      · rw [if_neg c2] at z; exact nx z
    · rw [if_neg c1] at z; exact nx z
theorem Jf.of (j : J σ) (tm : Tm σ) (W : Wd σ μ) {r t : Nat} (hr : r < rqn σ) (ht : t < tkn σ) (e : σ 10 t = nI r) (kp' : ¬ tk_kp σ t = 0) (h2 : ¬ σ 23 r = 2) : Jf σ r := by
  obtain ⟨a1, a2, a3, _⟩ := j.2.1 r hr
  have due : 0 ≤ (σ 25 r).toInt → (σ 0 7).toInt ≤ (σ 25 r).toInt := fun z => by
    rcases tm.2.2 r hr with q | q
    · rw [q] at z; exact absurd z (by decide)
    · omega
  rcases a1 t ht e kp' with q | q | q
  · exact Jf.of0 a3 q (due (a3.2.1 q).2.2.2) ((W.sr hr).2.1 (Or.inl q)).1
  · exact Jf.of1 a3 q (due (a3.2.2.1 q).2.2.2)
  · exact absurd q h2
theorem J.close (j : J σ) (h : Wd σ μ) (tm : Tm σ) (tx : Tx σ) {n nr lk : Nat} (hn : n = tkn σ) (hl : lk < lkn σ) : ∀ k, k ≤ rqn σ → J (w_close_it21 σ n nr lk k).1
  | 0, _ => by
    have h4 := wI_nr4 h.cr.w
    have k : ∀ o, o ≠ 1 → pr_up σ 1 7 ((σ 1 7) &&& (((1 : Int32) <<< ((nI lk) &&& 31)) ^^^ ((-1) : Int32))) o = σ o := fun o a => pr_up_ne a
    refine j.cong ⟨tkn_c (k 9 (by decide)), rqn_c (k 18 (by decide)), by show lkn (pr_up σ 1 7 _) = _; unfold lkn; rw [pr_upk (by decide)]⟩ (fun o ho => ?_) (congrFun (k 119 (by decide)) 2) (fun r _ => k _ (by omega)) h4
    simp only [List.mem_cons, List.not_mem_nil, or_false] at ho
    exact k o (by omega)
  | k + 1, hk => by
    have ih := J.close j h tm tx (nr := nr) hn hl k (by omega)
    have itx := Tx.close h tm tx (nr := nr) hn hl k (by omega)
    obtain ⟨i1, i2, i3⟩ := close_loop h tm (nr := nr) hn hl k (by omega)
    have f : ∀ o, o ∈ ([0, 9, 18, 22] : List Nat) → (w_close_it21 σ n nr lk k).1 o = σ o := fun o ho => by
      rw [fr_w_close_it21 (nin (A := [0, 9, 18, 22]) (by decide) ho), pr_up_ne (by simp only [List.mem_cons, List.not_mem_nil, or_false] at ho; omega)]
    have e0 := f 0 (by decide)
    have e22 := f 22 (by decide)
    have nt : n = tkn (w_close_it21 σ n nr lk k).1 := by rw [tkn_c (f 9 (by decide))]; exact hn
    have rk : k < rqn (w_close_it21 σ n nr lk k).1 := by rw [rqn_c (f 18 (by decide))]; exact hk
    rw [cl_s]
    split
    · exact ih
    · rename_i c1
      obtain ⟨t, t1, t2, t3⟩ := has_t _ _ c1
      split
      · rename_i c2
        dsimp only
        rw [← e0, ← e22]
        generalize (w_close_it21 σ n nr lk k).1 = τ at *
        have h4 := wI_nr4 i1.cr.w
        have ta := i3.2.1 k rk c2
        have tb := itx.2 k rk c2
        have t0 := i1.ti
        have js := (ih.2.1 k rk).2.2.2.1
        have ea : (τ 30 k - τ 0 7).toInt = (τ 30 k).toInt - (τ 0 7).toInt := i_sub (by have := t0.1; have := t0.2; omega) (by have := t0.1; have := t0.2; have := js.2; omega)
        unfold w_settle
        have u : ∀ r', r' ≠ k → ∀ (ρ : pr_I) (o o2 : Nat) (v : Int32), pr_up ρ o2 k v o r' = ρ o r' := fun r' hr ρ o o2 v => if_neg (fun z => hr z.2)
        refine ih.drop (r := k) (n := n) (a := τ 30 k - τ 0 7) (b := τ 22 k) (p := 100) (s := 6) nt h4 rk (fun t ht _ => am_le (ih.pc ht).1 (ih.pc ht).2 (by rw [ea]; omega) (by rw [ea]; omega) js.2.1 (by have := js.2.2; omega) (by decide) (by decide)) (fun o a b _ d => by rw [pr_up_ne d, pr_up_ne b, pr_up_ne a]; rfl) (fun o r' hr' _ => by rw [u r' hr', u r' hr', u r' hr']; rfl) (by rw [pr_upv (by decide), pr_upv (by decide), pr_upe]) (by decide) (by decide)
      · rename_i c2
        exact ih.fail i1.se i1.ti nt (wI_nr4 i1.cr.w) rk (Jf.of ih i3 i1 rk (by omega) t2 t3 c2)
end JEV
