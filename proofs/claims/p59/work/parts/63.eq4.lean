/-! SINGLE CELLS SET ON BOTH SIDES -/
theorem wB_req {c k : Nat} (hc : c < 15) (h : c ≠ 0 ∧ c ≠ 1 ∧ c ≠ 13 ∧ c ≠ 14) : wB (19 + c) k = none := by
  unfold wB
  rw [if_neg (by omega), if_neg (by omega), if_neg (by omega), if_neg (by omega), if_neg (by omega), if_neg (by omega), if_neg (by omega), if_neg (by omega), if_neg (by omega), if_neg (by omega), if_neg (by omega), if_neg (by omega), if_pos (by omega)]
theorem mR_none {c : Nat} (hc : c < 15) (h : c ≠ 0 ∧ c ≠ 1 ∧ c ≠ 13 ∧ c ≠ 14) : mR c = none := by
  unfold mR
  rw [if_neg (by omega), if_neg (by omega), if_neg (by omega), if_neg (by omega), if_pos (by omega)]
section CU
variable {σ μ : pr_I}
theorem cnt_up {o k : Nat} {v : Int32} (h : o ≠ 1 ∧ o ≠ 9 ∧ o ≠ 18) : lkn (pr_up σ o k v) = lkn σ ∧ rqn (pr_up σ o k v) = rqn σ ∧ tkn (pr_up σ o k v) = tkn σ := by
  unfold lkn rqn tkn
  rw [pr_upv (by omega), pr_upv (by omega), pr_upv (by omega)]
  exact ⟨rfl, rfl, rfl⟩
/-- a cell that neither tickets nor promises need -/
theorem Cr.u (h : Cr σ μ) {j o k : Nat} {v : Int32} (e : cA j = (o, k)) (ho : o ≠ 1 ∧ o ≠ 7 ∧ o ≠ 9 ∧ o ≠ 18 ∧ (o < 10 ∨ 17 < o)) (hj : j < 1384) (hw : wI (pr_up σ o k v)) (hm : mI (pr_up μ 1 j v)) : Cr (pr_up σ o k v) (pr_up μ 1 j v) := by
  obtain ⟨n1, n2, n3⟩ := cnt_up (σ := σ) (k := k) (v := v) (o := o) ⟨ho.1, ho.2.2.1, ho.2.2.2.1⟩
  refine ⟨hw, hm, ?_, ?_, ?_, ?_⟩
  · rw [n1, n2, n3]; exact h.rc.up e
  · rw [n1, n2, n3, pr_up_ne (by omega), pr_up_ne (by omega)]; exact fun t => h.tl
  · rw [n3, pr_up_ne (by omega)]; exact fun t => h.pc
  · rw [n1, n3, pr_up_ne (by omega)]
    intro k' hk'
    rw [prom_congr (n := tkn σ) (μ := μ) _ (fun t _ c _ => pr_upk (by omega))]
    exact h.pr hk'
theorem Cr.ureq (h : Cr σ μ) {r c : Nat} {v : Int32} (hr : r < rqn σ) (hc : c < 15) (hcc : c ≠ 0 ∧ c ≠ 1 ∧ c ≠ 13 ∧ c ≠ 14) : Cr (pr_up σ (19 + c) r v) (pr_up μ 1 (264 + 28 * r + c) v) := by
  have h4 := wI_nr4 h.w
  exact h.u (cA_req (by omega) hc) (by omega) (by omega) (wI.upn h.w (wB_req hc hcc)) (mI.upn h.m ((mW_req (k := r) (c := c) (by omega) (by omega)).trans (mR_none hc hcc)))
theorem Cr.ulen (h : Cr σ μ) {r : Nat} {v : Int32} (hr : r < rqn σ) (hv : vp_in v 12) : Cr (pr_up σ 32 r v) (pr_up μ 1 (264 + 28 * r + 13) v) := by
  have h4 := wI_nr4 h.w
  exact h.u (cA_req (c := 13) (by omega) (by decide)) (by omega) (by omega) (wI.upv h.w rfl hv) (mI.upv h.m ((mW_req (k := r) (c := 13) (by omega) (by decide)).trans rfl) hv)
theorem Cr.upl (h : Cr σ μ) {r : Nat} {v : Int32} (hr : r < rqn σ) (hv : vp_in v 12) : Cr (pr_up σ 33 r v) (pr_up μ 1 (264 + 28 * r + 14) v) := by
  have h4 := wI_nr4 h.w
  exact h.u (cA_req (c := 14) (by omega) (by decide)) (by omega) (by omega) (wI.upv h.w rfl hv) (mI.upv h.m ((mW_req (k := r) (c := 14) (by omega) (by decide)).trans rfl) hv)
theorem Cr.ufail (h : Cr σ μ) {k : Nat} {v : Int32} (hk : k < lkn σ) : Cr (pr_up σ 8 k v) (pr_up μ 1 (96 + 7 * k + 6) v) := by
  have h4 := wI_nl24 h.w
  exact h.u (cA_fail (by omega)) (by omega) (by omega) (wI.upn h.w rfl) (mI.upn h.m ((mW_link (k := k) (c := 6) (by omega) (by decide)).trans rfl))
theorem Cr.utime (h : Cr σ μ) {v : Int32} : Cr (pr_up σ 0 7 v) (pr_up μ 1 0 v) := h.u (j := 0) rfl (by omega) (by omega) (wI.upn h.w rfl) (mI.upn h.m rfl)
end CU
/-! A FAILED ATTEMPT -/
theorem Cr.fa {σ μ : pr_I} (h : Cr σ μ) {n r : Nat} {x : Int32} (hn : n = tkn σ) (hr : r < rqn σ) (hx : vp_in x (lkn σ)) : Cr (w_fail σ n r x) (m_fa μ r x) := by
  subst hn
  have h4 := wI_nr4 h.w
  have h24 := wI_nl24 h.w
  have hxl := vp_in_lt hx
  have hS := fa_loop h (n := tkn σ) (r := r) (x := x) (tkn σ) (Nat.le_refl _)
  obtain ⟨n1, n2, n3⟩ := ra_n (σ := σ) (n := tkn σ) (r := nI r) (a := 1) (b := 1) (p := 100) (k := tkn σ)
  have hrS : r < rqn (w_ra σ (tkn σ) (nI r) 1 1 100) := by show r < rqn (w_ra_it6 σ (tkn σ) (nI r) 1 1 100 (tkn σ)).1; rw [n2]; exact hr
  have hxS : x.toNatClampNeg < lkn (w_ra σ (tkn σ) (nI r) 1 1 100) := by show _ < lkn (w_ra_it6 σ (tkn σ) (nI r) 1 1 100 (tkn σ)).1; rw [n1]; exact hxl
  have hS' : Cr (w_ra σ (tkn σ) (nI r) 1 1 100) (m_fa_it2 μ r x (mtn μ)) := by rw [h.tn]; exact hS
  have e9 : σ 28 r = (m_fa_it2 μ r x (mtn μ)) 1 (264 + 28 * r + 9) := by rw [← hS'.req hrS (c := 9) (by decide), fr_w_ra (by decide)]
  have e5 : σ 24 r = (m_fa_it2 μ r x (mtn μ)) 1 (264 + 28 * r + 5) := by rw [← hS'.req hrS (c := 5) (by decide), fr_w_ra (by decide)]
  have e6 : σ 8 x.toNatClampNeg = (m_fa_it2 μ r x (mtn μ)) 1 (96 + 7 * x.toNatClampNeg + 6) := by rw [← hS'.fail hxS, fr_w_ra (by decide)]
  have et : σ 119 2 = μ 1 3 := h.set (j := 2) (by decide)
  have er : σ 119 1 = μ 1 2 := h.set (j := 1) (by decide)
  unfold w_fail m_fa
  rw [← e9, ← e5, ← e6, ← et, ← er, ← h.now]
  have base := ((((hS'.ureq (v := (σ 28 r) ||| ((1 : Int32) <<< (x &&& 31))) hrS (c := 9) (by decide) (by decide)).ureq (v := σ 24 r + 1) hrS (c := 5) (by decide) (by decide)).ureq (v := x) hrS (c := 12) (by decide) (by decide)).ufail (v := σ 8 x.toNatClampNeg + 1) hxS)
  by_cases c : σ 24 r + 1 < σ 119 2
  · rw [if_pos c, if_pos c, if_pos (show (nI 0 : Int32) = 0 from rfl), if_pos (show (nI 0 : Int32) = 0 from rfl)]
    exact (base.ureq (v := 7) hrS (c := 4) (by decide) (by decide)).ureq (v := σ 0 7 + σ 119 1) hrS (c := 6) (by decide) (by decide)
  · rw [if_neg c, if_neg c, if_neg (show ¬ (1 : Int32) = 0 by decide), if_neg (show ¬ (1 : Int32) = 0 by decide)]
    exact (base.ureq (v := 4) hrS (c := 4) (by decide) (by decide)).ureq (v := -1) hrS (c := 6) (by decide) (by decide)
