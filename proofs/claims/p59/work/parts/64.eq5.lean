/-! A NEW TICKET ON BOTH SIDES -/
theorem pr_up_comm {I : pr_I} {a b k j : Nat} {v w : Int32} (h : a ≠ b) : pr_up (pr_up I a k v) b j w = pr_up (pr_up I b j w) a k v := by
  funext c i
  unfold pr_up
  by_cases c1 : c = b ∧ i = j
  · rw [if_pos c1, if_neg (fun q => h (q.1.symm.trans c1.1)), if_pos c1]
  · rw [if_neg c1]
    by_cases c2 : c = a ∧ i = k
    · rw [if_pos c2, if_pos c2]
    · rw [if_neg c2, if_neg c2, if_neg c1]
def EJ (j : Nat) (σ μ : pr_I) : Prop := σ (cA j).1 (cA j).2 = μ 1 j
theorem EJ.set {j o k : Nat} {σ μ : pr_I} {v : Int32} (e : cA j = (o, k)) : EJ j (pr_up σ o k v) (pr_up μ 1 j v) := by
  unfold EJ; rw [e, pr_upe, pr_upe]
theorem EJ.up {j j0 o k : Nat} {σ μ : pr_I} {v : Int32} (h : EJ j σ μ) (e : cA j0 = (o, k)) : EJ j (pr_up σ o k v) (pr_up μ 1 j0 v) := by
  by_cases c : j = j0
  · subst c; exact EJ.set e
  · unfold EJ at *
    have : ¬ ((cA j).1 = o ∧ (cA j).2 = k) := fun q => c (cA_inj (by rw [e, ← q.1, ← q.2]))
    unfold pr_up
    rw [if_neg this, if_neg (fun q => c q.2)]; exact h
theorem EJ.cls {j o k : Nat} {σ μ : pr_I} {v : Int32} (h : EJ j σ μ) (e : o = 7 ∨ (34 ≤ o ∧ o < 119)) : EJ j (pr_up σ o k v) μ := by
  unfold EJ at *
  have := cA_1 j
  rw [show pr_up σ o k v (cA j).1 (cA j).2 = σ (cA j).1 (cA j).2 from congrFun (pr_up_ne (by omega)) _]
  exact h
theorem RC.addt {nl nr nt : Nat} {σ μ : pr_I} (h : RC nl nr nt σ μ) (e : ∀ c, c < 8 → EJ (1384 + 8 * nt + c) σ μ) : RC nl nr (nt + 1) σ μ := fun i hi => by
  rcases hi with a | a | a | ⟨t, c, ht, hc, rfl⟩
  · exact h i (Or.inl a)
  · exact h i (Or.inr (Or.inl a))
  · exact h i (Or.inr (Or.inr (Or.inl a)))
  · by_cases q : t = nt
    · subst q; exact e c hc
    · exact h _ (Or.inr (Or.inr (Or.inr ⟨t, c, by omega, hc, rfl⟩)))
theorem RC.addr {nl nr nt : Nat} {σ μ : pr_I} (h : RC nl nr nt σ μ) (e : ∀ c, c < 15 → EJ (264 + 28 * nr + c) σ μ) : RC nl (nr + 1) nt σ μ := fun i hi => by
  rcases hi with a | a | ⟨t, c, ht, hc, rfl⟩ | a
  · exact h i (Or.inl a)
  · exact h i (Or.inr (Or.inl a))
  · by_cases q : t = nr
    · subst q; exact e c hc
    · exact h _ (Or.inr (Or.inr (Or.inl ⟨t, c, by omega, hc, rfl⟩)))
  · exact h i (Or.inr (Or.inr (Or.inr a)))
theorem Cr.iss {σ μ : pr_I} (h : Cr σ μ) {r : Nat} {x : Int32} (h5 : tkn σ < 500) (hr : r < rqn σ) (hx : vp_in x (lkn σ)) (hp0 : 0 ≤ (σ 5 x.toNatClampNeg).toInt ∧ (σ 5 x.toNatClampNeg).toInt ≤ 1000) (hu : 0 ≤ (σ 21 r).toInt ∧ (σ 21 r).toInt ≤ 1000) : Cr (w_issue σ (tkn σ) r x) (m_is μ r x) ∧ tkn (w_issue σ (tkn σ) r x) = tkn σ + 1 := by
  have h4 := wI_nr4 h.w
  have h24 := wI_nl24 h.w
  have hxl := vp_in_lt hx
  have hx24 := vp_in_mono hx h24
  have ex : x = nI x.toNatClampNeg := vp_nI hx (by omega)
  have e2 : σ 21 r = μ 1 (264 + 28 * r + 2) := h.req hr (c := 2) (by decide)
  have e3 : σ 5 x.toNatClampNeg = μ 1 (96 + 7 * x.toNatClampNeg + 3) := h.link hxl (c := 3) (by decide)
  have e7 : σ 26 r = μ 1 (264 + 28 * r + 7) := h.req hr (c := 7) (by decide)
  have es : σ 119 0 = μ 1 1 := h.set (j := 0) (by decide)
  have eT : tkn (w_issue σ (tkn σ) r x) = tkn σ + 1 := by
    show (pr_up (pr_up (pr_up (pr_up (pr_up (pr_up (pr_up (pr_up (pr_up (pr_up (pr_up σ 10 (tkn σ) _) 11 (tkn σ) _) 12 (tkn σ) _) 13 (tkn σ) _) 14 (tkn σ) _) 15 (tkn σ) _) 16 (tkn σ) _) 17 (tkn σ) _) 9 8 (nI (tkn σ + 1))) 7 x.toNatClampNeg _) 26 r _ 9 8).toNatClampNeg = _
    rw [pr_upv (by decide), pr_upv (by decide), pr_upe, nI_clamp (by omega)]
  have eL : lkn (w_issue σ (tkn σ) r x) = lkn σ := rfl
  have eR : rqn (w_issue σ (tkn σ) r x) = rqn σ := rfl
  have em : m_is μ r x = pr_up (pr_up (pr_up (pr_up (pr_up (pr_up (pr_up (pr_up (pr_up (pr_up μ 1 (1384 + 8 * (tkn σ) + 0) (nI r)) 1 (1384 + 8 * (tkn σ) + 1) x) 1 (1384 + 8 * (tkn σ) + 2) (σ 21 r)) 1 (1384 + 8 * (tkn σ) + 3) (σ 0 7)) 1 (1384 + 8 * (tkn σ) + 4) ((σ 0 7) + (σ 119 0))) 1 (1384 + 8 * (tkn σ) + 5) (0 : Int32)) 1 (1384 + 8 * (tkn σ) + 6) ((σ 5 x.toNatClampNeg) * (σ 21 r))) 1 (1384 + 8 * (tkn σ) + 7) (0 : Int32)) 1 (264 + 28 * r + 7) ((σ 26 r) + ((σ 5 x.toNatClampNeg) * (σ 21 r)))) 1 9 (nI (tkn σ + 1)) := by
    unfold m_is
    rw [h.tn, ← e2, ← e3, ← e7, ← es, ← h.now]
  have ew : w_issue σ (tkn σ) r x = pr_up (pr_up (pr_up (pr_up (pr_up (pr_up (pr_up (pr_up (pr_up (pr_up (pr_up σ 10 (tkn σ) (nI r)) 11 (tkn σ) x) 12 (tkn σ) (σ 21 r)) 13 (tkn σ) (σ 0 7)) 14 (tkn σ) ((σ 0 7) + (σ 119 0))) 15 (tkn σ) (0 : Int32)) 16 (tkn σ) ((σ 5 x.toNatClampNeg) * (σ 21 r))) 17 (tkn σ) (0 : Int32)) 26 r ((σ 26 r) + ((σ 5 x.toNatClampNeg) * (σ 21 r)))) 9 8 (nI (tkn σ + 1))) 7 x.toNatClampNeg ((σ 7 x.toNatClampNeg) + (σ 21 r)) := by
    unfold w_issue
    rw [pr_up_comm (show (7 : Nat) ≠ 26 by decide), pr_up_comm (show (9 : Nat) ≠ 26 by decide)]
  have c : ∀ c, c < 8 → cA (1384 + 8 * tkn σ + c) = (10 + c, tkn σ) := fun c hc => cA_tick hc
  have cr : cA (264 + 28 * r + 7) = (26, r) := cA_req (c := 7) (by omega) (by decide)
  have c9 : cA 9 = (9, 8) := rfl
  refine ⟨⟨wI_w_issue (by omega) (by omega) hx24 h.w, mI_m_is (by omega) hx24 (by rw [h.tn]; exact h5) h.m, ?_, ?_, ?_, ?_⟩, eT⟩
  · rw [eL, eR, eT, em, ew]
    refine (RC.addt (nt := tkn σ) ?_ ?_)
    · exact (((((((((((h.rc.up (o := 10) (c 0 (by decide))).up (o := 11) (c 1 (by decide))).up (o := 12) (c 2 (by decide))).up (o := 13) (c 3 (by decide))).up (o := 14) (c 4 (by decide))).up (o := 15) (c 5 (by decide))).up (o := 16) (c 6 (by decide))).up (o := 17) (c 7 (by decide))).up cr).up c9).cls (Or.inl rfl))
    · intro k hk
      refine EJ.cls (EJ.up (EJ.up ?_ cr) c9) (Or.inl rfl)
      rcases (by omega : k = 0 ∨ k = 1 ∨ k = 2 ∨ k = 3 ∨ k = 4 ∨ k = 5 ∨ k = 6 ∨ k = 7) with rfl | rfl | rfl | rfl | rfl | rfl | rfl | rfl
      · exact (((((((EJ.set (c 0 (by decide))).up (c 1 (by decide))).up (c 2 (by decide))).up (c 3 (by decide))).up (c 4 (by decide))).up (c 5 (by decide))).up (c 6 (by decide))).up (c 7 (by decide))
      · exact ((((((EJ.set (c 1 (by decide))).up (c 2 (by decide))).up (c 3 (by decide))).up (c 4 (by decide))).up (c 5 (by decide))).up (c 6 (by decide))).up (c 7 (by decide))
      · exact (((((EJ.set (c 2 (by decide))).up (c 3 (by decide))).up (c 4 (by decide))).up (c 5 (by decide))).up (c 6 (by decide))).up (c 7 (by decide))
      · exact ((((EJ.set (c 3 (by decide))).up (c 4 (by decide))).up (c 5 (by decide))).up (c 6 (by decide))).up (c 7 (by decide))
      · exact (((EJ.set (c 4 (by decide))).up (c 5 (by decide))).up (c 6 (by decide))).up (c 7 (by decide))
      · exact ((EJ.set (c 5 (by decide))).up (c 6 (by decide))).up (c 7 (by decide))
      · exact (EJ.set (c 6 (by decide))).up (c 7 (by decide))
      · exact EJ.set (c 7 (by decide))
  · have r10 : (w_issue σ (tkn σ) r x) 10 = pr_up σ 10 (tkn σ) (nI r) 10 := by rw [ew, pr_up_ne (show (10 : Nat) ≠ 7 by decide), pr_up_ne (show (10 : Nat) ≠ 9 by decide), pr_up_ne (show (10 : Nat) ≠ 26 by decide), pr_up_ne (show (10 : Nat) ≠ 17 by decide), pr_up_ne (show (10 : Nat) ≠ 16 by decide), pr_up_ne (show (10 : Nat) ≠ 15 by decide), pr_up_ne (show (10 : Nat) ≠ 14 by decide), pr_up_ne (show (10 : Nat) ≠ 13 by decide), pr_up_ne (show (10 : Nat) ≠ 12 by decide), pr_up_ne (show (10 : Nat) ≠ 11 by decide)]
    have r11 : (w_issue σ (tkn σ) r x) 11 = pr_up (pr_up σ 10 (tkn σ) (nI r)) 11 (tkn σ) x 11 := by rw [ew, pr_up_ne (show (11 : Nat) ≠ 7 by decide), pr_up_ne (show (11 : Nat) ≠ 9 by decide), pr_up_ne (show (11 : Nat) ≠ 26 by decide), pr_up_ne (show (11 : Nat) ≠ 17 by decide), pr_up_ne (show (11 : Nat) ≠ 16 by decide), pr_up_ne (show (11 : Nat) ≠ 15 by decide), pr_up_ne (show (11 : Nat) ≠ 14 by decide), pr_up_ne (show (11 : Nat) ≠ 13 by decide), pr_up_ne (show (11 : Nat) ≠ 12 by decide)]
    rw [eL, eR, eT, r10, r11]
    intro t ht
    by_cases q : t = tkn σ
    · subst q; rw [pr_upe, pr_upe]; exact ⟨nI_vin hr (by omega), hx⟩
    · rw [pr_upk q, pr_upk q, pr_upv (by decide)]; exact h.tl (by omega)
  · rw [eT, ew]
    intro t ht
    rw [pr_upv (by decide), pr_upv (by decide), pr_upv (by decide), pr_upv (by decide)]
    by_cases q : t = tkn σ
    · subst q; rw [pr_upe]
      have m1 : 0 ≤ (σ 5 x.toNatClampNeg).toInt * (σ 21 r).toInt := Int.mul_nonneg hp0.1 hu.1
      have m2 : (σ 5 x.toNatClampNeg).toInt * (σ 21 r).toInt ≤ 1000 * 1000 := Int.mul_le_mul hp0.2 hu.2 hu.1 (by decide)
      rw [i_mul (by omega) (by omega)]; omega
    · rw [pr_upk q]; exact h.pc (t := t) (by omega)
  · rw [eL, eT]
    intro k hk
    have p0 : m_prom_it4 (m_is μ r x) (tkn σ + 1) (nI k) (tkn σ + 1) = m_prom_it4 μ (tkn σ) (nI k) (tkn σ) + (if x = nI k then σ 21 r else 0) := by
      rw [em]
      show m_prom_it4 _ (tkn σ + 1) (nI k) (tkn σ) + _ = _
      rw [prom_congr (μ := μ) (n := tkn σ) (tkn σ) (fun t ht c hc => by
        rw [pr_upk (by omega), pr_upk (by omega), pr_upk (by omega), pr_upk (by omega), pr_upk (by omega), pr_upk (by omega), pr_upk (by omega), pr_upk (by omega), pr_upk (by omega), pr_upk (by omega)])]
      congr 1
      unfold m_kept_r
      rw [pr_upk (by omega), pr_upk (by omega), pr_upk (by omega), pr_upk (by omega), pr_upk (by omega), pr_upk (by omega), pr_upk (by omega), pr_upk (by omega), pr_upe]
      rw [pr_upk (by omega), pr_upk (by omega), pr_upk (by omega), pr_upk (by omega), pr_upe, if_pos rfl, if_neg (show ¬ (1 : Int32) = 0 by decide)]
      rw [pr_upk (by omega), pr_upk (by omega), pr_upk (by omega), pr_upk (by omega), pr_upk (by omega), pr_upk (by omega), pr_upk (by omega), pr_upe]
    rw [p0, ew]
    by_cases q : k = x.toNatClampNeg
    · subst q; rw [pr_upe, if_pos ex, h.pr hk]
    · rw [pr_upk q, if_neg, Int32.add_zero]
      · rw [pr_upv (by decide), pr_upv (by decide), pr_upv (by decide), pr_upv (by decide), pr_upv (by decide), pr_upv (by decide), pr_upv (by decide), pr_upv (by decide), pr_upv (by decide), pr_upv (by decide)]
        exact h.pr hk
      · intro e; rw [ex] at e; exact q ((nI_eq (by omega) (by omega)).mp e).symm
