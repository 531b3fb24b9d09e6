/-! ONE MOVE FORWARD -/
/-- an attempt's move in the class: what the call left, failed if it answered a link -/
noncomputable def w_f1 (σ : pr_I) (r : Nat) : pr_I := if w_fwd_r σ (tkn σ) r = -1 then w_fwd σ (tkn σ) r else w_fail (w_fwd σ (tkn σ) r) (tkn (w_fwd σ (tkn σ) r)) r (w_fwd_r σ (tkn σ) r)
noncomputable def w_b1 (σ : pr_I) (r : Nat) : pr_I := if w_back_r σ r = -1 then w_back σ r else w_fail (w_back σ r) (tkn σ) r (w_back_r σ r)
theorem vin_m1 {x : Int32} {n : Nat} (h : vp_in x n) (hn : n < 2 ^ 31) : ¬ x = -1 := fun e => h (Or.inl (by rw [e]; decide))
theorem lk_ux_eq {σ : pr_I} {x : Int32} {n : Nat} (h : vp_in x n) (hn : n < 2 ^ 31) : (lk_ux_r σ x = 0) = (lk_up σ x.toNatClampNeg = 0) := by
  unfold lk_ux_r lk_up
  rw [← vp_nI h hn]
  by_cases c : ((σ 1 7 >>> (x &&& 31)) &&& 1) = 0
  · rw [if_pos c]; simp [c]
  · rw [if_neg c]; simp [c]
theorem ax_eq {σ μ : pr_I} (h : Cr σ μ) {x : Int32} (hx : vp_in x (lkn σ)) : lk_ax_r σ x = m_ax_r μ (mtn μ) x := by
  have h24 := wI_nl24 h.w
  have hxl := vp_in_lt hx
  unfold lk_ax_r m_ax_r m_prom_r
  rw [h.tn, h.pr hxl, ← vp_nI hx (by omega)]
  exact congrArg (fun z : Int32 => z - m_prom_it4 μ (tkn σ) x (tkn σ)) (h.link hxl (c := 2) (by decide))
theorem Pt.add {σ σ' : pr_I} {r r' : Nat} (h : Pt σ r') (hT : tkn σ' = tkn σ + 1) (h32 : σ' 32 r' = σ 32 r') (h33 : σ' 33 r' = σ 33 r') (h35 : σ' (35 + r') = σ (35 + r')) (h76 : σ' (76 + r') = σ (76 + r')) (h10 : ∀ t, t < tkn σ → σ' 10 t = σ 10 t) (h11 : ∀ t, t < tkn σ → σ' 11 t = σ 11 t) (hr : σ' 10 (tkn σ) = nI r) (hne : nI r ≠ nI r') : Pt σ' r' := by
  unfold Pt
  rw [h32, h33, h35, h76, hT]
  refine ⟨h.1, h.2.1, h.2.2.1, fun p hp => ?_⟩
  obtain ⟨t, a, b, c, d, e⟩ := h.2.2.2 p hp
  refine ⟨t, by omega, b, by rw [h10 t a]; exact c, by rw [h11 t a]; exact d, fun t' q1 q2 => ?_⟩
  by_cases q : t' = tkn σ
  · subst q; rw [hr]; exact fun z => hne z.1
  · rw [h10 t' (by omega), h11 t' (by omega)]; exact e t' q1 (by omega)
theorem kp_is {μ : pr_I} {r j : Nat} {x : Int32} (hr : r < 40) (hj : kp j) : m_is μ r x 1 j = μ 1 j := by
  unfold kp at hj
  unfold m_is
  rw [pr_upk (by omega), pr_upk (by omega), pr_upk (by omega), pr_upk (by omega), pr_upk (by omega), pr_upk (by omega), pr_upk (by omega), pr_upk (by omega), pr_upk (by omega), pr_upk (by omega)]
/-- a ticket is issued and the request goes on -/
theorem Wd.go {σ μ : pr_I} (h : Wd σ μ) {r p : Nat} {x : Int32} (hr : r < rqn σ) (h5 : tkn σ < 500) (hs : σ 23 r = 0) (hP : Pt σ r) (hp : p < (σ 32 r).toNatClampNeg) (hpp : σ 33 r = nI p) (ex : σ (35 + r) p = x) : Wd (pr_up (pr_up (pr_up (w_issue σ (tkn σ) r x) (76 + r) p (nI (tkn σ))) 33 r (σ 33 r + 1)) 25 r (σ 0 7 + σ 6 x.toNatClampNeg)) (m_go (m_is μ r x) r (σ 33 r + 1) x) := by
  have h4 := wI_nr4 h.cr.w
  have h24 := wI_nl24 h.cr.w
  have hL := vp_in_lt (h.cr.w 32 r 12 rfl)
  have hx : vp_in x (lkn σ) := by rw [← ex]; exact (h.pa r p hr hp).2
  have hxl := vp_in_lt hx
  obtain ⟨C1, eT⟩ := h.cr.iss h5 hr hx (h.lk _ hxl).2.2.2.1 ⟨by have := (h.rq r hr).2.2.2.1.1; omega, (h.rq r hr).2.2.2.1.2⟩
  have f : ∀ o, (o < 7 ∨ o = 8 ∨ (17 < o ∧ o < 26) ∨ 26 < o) → w_issue σ (tkn σ) r x o = σ o := fun o ho => fr_w_issue (by simp only [List.mem_cons, List.not_mem_nil, or_false, forall_eq_or_imp, forall_eq]; omega)
  have eR : rqn (w_issue σ (tkn σ) r x) = rqn σ := rfl
  have eL : lkn (w_issue σ (tkn σ) r x) = lkn σ := rfl
  have C2 := C1.pt (r := r) (k := p) (v := nI (tkn σ)) (by omega) (nI_vin h5 (by decide))
  have q2 : r < rqn (pr_up (w_issue σ (tkn σ) r x) (76 + r) p (nI (tkn σ))) := by rw [(cnt_up (by omega)).2.1, eR]; exact hr
  have q3 : r < rqn (pr_up (pr_up (w_issue σ (tkn σ) r x) (76 + r) p (nI (tkn σ))) 33 r (σ 33 r + 1)) := by rw [(cnt_up (by omega)).2.1]; exact q2
  have C3 := C2.upl (r := r) (v := σ 33 r + 1) q2 (by rw [hpp, nI_1]; exact nI_vin (by omega) (by decide))
  have C4 := C3.ureq (r := r) (c := 6) (v := σ 0 7 + σ 6 x.toNatClampNeg) q3 (by decide) (by decide)
  have em : m_go (m_is μ r x) r (σ 33 r + 1) x = pr_up (pr_up (m_is μ r x) 1 (264 + 28 * r + 14) (σ 33 r + 1)) 1 (264 + 28 * r + 6) (σ 0 7 + σ 6 x.toNatClampNeg) := by
    unfold m_go
    have a1 : (m_is μ r x) 1 0 = σ 0 7 := by rw [← C1.now, f 0 (by omega)]
    have a2 : (m_is μ r x) 1 (96 + 7 * x.toNatClampNeg + 4) = σ 6 x.toNatClampNeg := by rw [← C1.link (k := x.toNatClampNeg) (c := 4) (by rw [eL]; exact hxl) (by decide), f (2 + 4) (by omega)]
    rw [a1, a2]
  rw [em]
  have t10 : ∀ t, t < tkn σ → w_issue σ (tkn σ) r x 10 t = σ 10 t := fun t ht => by
    unfold w_issue
    rw [pr_upv (show (10 : Nat) ≠ 26 by decide), pr_upv (show (10 : Nat) ≠ 7 by decide), pr_upv (show (10 : Nat) ≠ 9 by decide), pr_upv (show (10 : Nat) ≠ 17 by decide), pr_upv (show (10 : Nat) ≠ 16 by decide), pr_upv (show (10 : Nat) ≠ 15 by decide), pr_upv (show (10 : Nat) ≠ 14 by decide), pr_upv (show (10 : Nat) ≠ 13 by decide), pr_upv (show (10 : Nat) ≠ 12 by decide), pr_upv (show (10 : Nat) ≠ 11 by decide), pr_upk (by omega)]
  have t11 : ∀ t, t < tkn σ → w_issue σ (tkn σ) r x 11 t = σ 11 t := fun t ht => by
    unfold w_issue
    rw [pr_upv (show (11 : Nat) ≠ 26 by decide), pr_upv (show (11 : Nat) ≠ 7 by decide), pr_upv (show (11 : Nat) ≠ 9 by decide), pr_upv (show (11 : Nat) ≠ 17 by decide), pr_upv (show (11 : Nat) ≠ 16 by decide), pr_upv (show (11 : Nat) ≠ 15 by decide), pr_upv (show (11 : Nat) ≠ 14 by decide), pr_upv (show (11 : Nat) ≠ 13 by decide), pr_upv (show (11 : Nat) ≠ 12 by decide), pr_upk (by omega), pr_upv (show (11 : Nat) ≠ 10 by decide)]
  have n10 : w_issue σ (tkn σ) r x 10 (tkn σ) = nI r := by
    unfold w_issue
    rw [pr_upv (show (10 : Nat) ≠ 26 by decide), pr_upv (show (10 : Nat) ≠ 7 by decide), pr_upv (show (10 : Nat) ≠ 9 by decide), pr_upv (show (10 : Nat) ≠ 17 by decide), pr_upv (show (10 : Nat) ≠ 16 by decide), pr_upv (show (10 : Nat) ≠ 15 by decide), pr_upv (show (10 : Nat) ≠ 14 by decide), pr_upv (show (10 : Nat) ≠ 13 by decide), pr_upv (show (10 : Nat) ≠ 12 by decide), pr_upv (show (10 : Nat) ≠ 11 by decide), pr_upe]
  have n11 : w_issue σ (tkn σ) r x 11 (tkn σ) = x := by
    unfold w_issue
    rw [pr_upv (show (11 : Nat) ≠ 26 by decide), pr_upv (show (11 : Nat) ≠ 7 by decide), pr_upv (show (11 : Nat) ≠ 9 by decide), pr_upv (show (11 : Nat) ≠ 17 by decide), pr_upv (show (11 : Nat) ≠ 16 by decide), pr_upv (show (11 : Nat) ≠ 15 by decide), pr_upv (show (11 : Nat) ≠ 14 by decide), pr_upv (show (11 : Nat) ≠ 13 by decide), pr_upv (show (11 : Nat) ≠ 12 by decide), pr_upe]
  -- the class' world behind the move
  generalize hS : (pr_up (pr_up (pr_up (w_issue σ (tkn σ) r x) (76 + r) p (nI (tkn σ))) 33 r (σ 33 r + 1)) 25 r (σ 0 7 + σ 6 x.toNatClampNeg)) = S at *
  have g : ∀ o, o ≠ 25 → o ≠ 33 → o ≠ 76 + r → S o = w_issue σ (tkn σ) r x o := fun o a b c => by
    rw [← hS, pr_up_ne a, pr_up_ne b, pr_up_ne c]
  have gT : tkn S = tkn σ + 1 := by unfold tkn; rw [g 9 (by decide) (by decide) (by omega)]; exact eT
  have g33 : ∀ r', S 33 r' = if r' = r then σ 33 r + 1 else σ 33 r' := fun r' => by
    rw [← hS, pr_upv (by decide)]
    by_cases q : r' = r
    · subst q; rw [pr_upe, if_pos rfl]
    · rw [pr_upk q, pr_upv (by omega), if_neg q, f 33 (by omega)]
  have g25 : ∀ r', r' ≠ r → S 25 r' = σ 25 r' := fun r' q => by
    rw [← hS, pr_upk q, pr_upv (by decide), pr_upv (by omega), f 25 (by omega)]
  have g76 : ∀ r', r' ≠ r → S (76 + r') = σ (76 + r') := fun r' q => by
    by_cases z1 : 76 + r' = 33 ∨ 76 + r' = 25
    · omega
    · rw [g _ (by omega) (by omega) (by omega), f _ (by omega)]
  have g76e : ∀ p', S (76 + r) p' = if p' = p then nI (tkn σ) else σ (76 + r) p' := fun p' => by
    rw [← hS, pr_upv (by omega), pr_upv (by omega)]
    by_cases q : p' = p
    · subst q; rw [pr_upe, if_pos rfl]
    · rw [pr_upk q, if_neg q, f _ (by omega)]
  have g23 : S 23 = σ 23 := by rw [g 23 (by decide) (by decide) (by omega), f 23 (by omega)]
  have g32 : S 32 = σ 32 := by rw [g 32 (by decide) (by decide) (by omega), f 32 (by omega)]
  have g35 : ∀ r', r' < 40 → S (35 + r') = σ (35 + r') := fun r' q => by rw [g _ (by omega) (by omega) (by omega), f _ (by omega)]
  have g10 : S 10 = w_issue σ (tkn σ) r x 10 := g 10 (by decide) (by decide) (by omega)
  have g11 : S 11 = w_issue σ (tkn σ) r x 11 := g 11 (by decide) (by decide) (by omega)
  refine h.keep C4 (fun o ho => ?_) g35 (fun j hj => ?_) (fun r' hr' => ?_)
  · have b : o < 7 ∨ (17 < o ∧ o < 23) ∨ o = 32 ∨ o = 119 := by
      simp only [List.mem_cons, List.not_mem_nil, or_false] at ho; omega
    rw [g o (by omega) (by omega) (by omega), f o (by omega)]
  · have e := kp_is (μ := μ) (r := r) (x := x) (by omega) hj
    unfold kp at hj
    rw [pr_upk (by omega), pr_upk (by omega)]; exact e
  · by_cases q : r' = r
    · subst q
      refine ⟨by rw [g23]; exact (h.sr hr').1, fun _ => ?_, fun z => absurd (Or.inl (by rw [g23]; exact hs)) z, fun z => absurd (hs.symm.trans ((by rw [← g23]; exact z) : σ 23 r' = 1)) (by decide)⟩
      unfold Pt
      rw [g32, g33, if_pos rfl, g35 r' (by omega), gT, hpp, nI_1, nI_clamp (by omega)]
      refine ⟨by omega, hP.2.1, hP.2.2.1, fun p' hp' => ?_⟩
      rw [g76e p', g10, g11]
      by_cases c : p' = p
      · subst c
        rw [if_pos rfl]
        exact ⟨tkn σ, by omega, rfl, n10, n11.trans ex.symm, fun t' a b => by omega⟩
      · rw [if_neg c]
        have hp3 : p' < (σ 33 r').toNatClampNeg := by rw [hpp, nI_clamp (by omega)]; omega
        obtain ⟨t, a, b, c1, d, e⟩ := hP.2.2.2 p' hp3
        refine ⟨t, by omega, b, by rw [t10 t a]; exact c1, by rw [t11 t a]; exact d, fun t' q1 q2 => ?_⟩
        by_cases z : t' = tkn σ
        · subst z; rw [n11]
          exact fun w => hP.2.2.1 p' p (by omega) hp (by rw [ex]; exact w.2.symm)
        · rw [t10 t' (by omega), t11 t' (by omega)]; exact e t' q1 (by omega)
    · have hne : nI r ≠ nI r' := fun z => q ((nI_eq (by omega) (by omega)).mp z).symm
      have b := h.sr hr'
      unfold Sr
      rw [g23, g25 r' q]
      refine ⟨b.1, fun z => (b.2.1 z).add gT (by rw [g32]) (by rw [g33, if_neg q]) (g35 r' (by omega)) (g76 r' q) (fun t ht => by rw [g10, t10 t ht]) (fun t ht => by rw [g11, t11 t ht]) (by rw [g10, n10]) hne, b.2.2.1, fun z => ?_⟩
      obtain ⟨t, a1, a2, a3⟩ := b.2.2.2 z
      exact ⟨t, by omega, by rw [g10, t10 t a1]; exact a2, by rw [g11, t11 t a1, g35 r' (by omega)]; exact a3⟩
