/-! extend, setSetting, setCapacity -/
theorem Wd.u14 {σ μ : pr_I} (h : Wd σ μ) {t : Nat} {v : Int32} (ht : t < tkn σ) : Wd (pr_up σ 14 t v) (pr_up μ 1 (1384 + 8 * t + 4) v) := by
  have h4 := wI_nr4 h.cr.w
  have h5 := wI_n5 h.cr.w
  have k : ∀ o, o ≠ 14 → pr_up σ 14 t v o = σ o := fun o a => pr_up_ne a
  have C : Cr (pr_up σ 14 t v) (pr_up μ 1 (1384 + 8 * t + 4) v) := by
    refine ⟨wI.upn h.cr.w rfl, mI.upn h.cr.m ((mW_tick (k := t) (c := 4) (by omega) (by decide)).trans rfl), h.cr.rc.up (cA_tick (c := 4) (by decide)), fun t' => h.cr.tl, fun t' => h.cr.pc, fun i hi => ?_⟩
    show σ 7 i = m_prom_it4 _ (tkn σ) (nI i) (tkn σ)
    rw [prom_congr (n := tkn σ) (μ := μ) _ (fun t' _ c hc => pr_upk (by omega))]
    exact h.cr.pr hi
  refine h.keep C (fun o ho => k o ?_) (fun r _ => k _ (by omega)) (fun j hj => ?_) (fun r hr => (h.sr hr).of (k _ (by omega)) (k _ (by omega)) (k _ (by omega)) (k _ (by omega)) (by rw [k _ (by omega)]) (k _ (by omega)) (k _ (by omega)) (by rw [k _ (by omega)]) (by rw [k _ (by omega)]))
  · simp only [List.mem_cons, List.not_mem_nil, or_false] at ho; omega
  · unfold kp at hj; rw [pr_upk (by omega)]
theorem Tm.u14 {σ : pr_I} (h : Tm σ) {t : Nat} {v : Int32} (h0 : 0 ≤ (σ 0 7).toInt) (hv : v = σ 14 t ∨ (σ 0 7).toInt < v.toInt) : Tm (pr_up σ 14 t v) := by
  have k : ∀ o, o ≠ 14 → pr_up σ 14 t v o = σ o := fun o a => pr_up_ne a
  refine ⟨fun i hi => ?_, fun r hr z => ?_, fun r hr => ?_⟩
  · rw [tkn_c (k 9 (by decide))] at hi
    rw [k 15 (by decide), k 0 (by decide)]
    by_cases e : i = t
    · rw [e, pr_upe]
      rw [e] at hi
      rcases hv with x | x
      · rw [x]; exact h.1 t hi
      · exact ⟨by omega, fun _ => x⟩
    · rw [pr_upk e]; exact h.1 i hi
  · rw [rqn_c (k 18 (by decide))] at hr
    rw [k 23 (by decide)] at z
    rw [k 30 (by decide), k 0 (by decide)]; exact h.2.1 r hr z
  · rw [rqn_c (k 18 (by decide))] at hr
    rw [k 25 (by decide), k 0 (by decide)]; exact h.2.2 r hr
theorem ext_s {μ : pr_I} {r i : Nat} : mf_extend_it14 μ r (i + 1) = (if ((mf_extend_it14 μ r i).1 1 (1384 + 8 * i + 0)) = (nI r) then (if ((mf_extend_it14 μ r i).1 1 (1384 + 8 * i + 5)) = 0 then ((pr_up (mf_extend_it14 μ r i).1 1 (1384 + 8 * i + 4) (if ((mf_extend_it14 μ r i).1 1 (1384 + 8 * i + 4)) < ((μ 1 0) + (μ 1 1)) then ((μ 1 0) + (μ 1 1)) else ((mf_extend_it14 μ r i).1 1 (1384 + 8 * i + 4)))), (((mf_extend_it14 μ r i).2) + Int32.ofInt (1))) else (mf_extend_it14 μ r i)) else (mf_extend_it14 μ r i)) := by rw [mf_extend_it14]
theorem post_s {σ : pr_I} {n k : Nat} {h v : Int32} : tk_post_it5 σ n h v (k + 1) = (if (σ 10 k) = h then (if (σ 15 k) = 0 then ((pr_up (tk_post_it5 σ n h v k).1 14 k (if ((tk_post_it5 σ n h v k).1 14 k) < v then v else ((tk_post_it5 σ n h v k).1 14 k))), (((tk_post_it5 σ n h v k).2) + Int32.ofInt (1))) else (tk_post_it5 σ n h v k)) else (tk_post_it5 σ n h v k)) := by rw [tk_post_it5]
theorem ext_loop {σ μ : pr_I} (h : WT σ μ) {n r : Nat} : ∀ k, k ≤ tkn σ → WT (tk_post_it5 σ n (nI r) (σ 0 7 + σ 119 0) k).1 (mf_extend_it14 μ r k).1 ∧ (tk_post_it5 σ n (nI r) (σ 0 7 + σ 119 0) k).2 = (mf_extend_it14 μ r k).2
  | 0, _ => ⟨h.mu, rfl⟩
  | k + 1, hk => by
    obtain ⟨i1, i2⟩ := ext_loop h (n := n) (r := r) k (by omega)
    have f : ∀ o, o ≠ 14 → (tk_post_it5 σ n (nI r) (σ 0 7 + σ 119 0) k).1 o = σ o := fun o a => fr_tk_post_it5 (by simpa using a)
    have ht : k < tkn (tk_post_it5 σ n (nI r) (σ 0 7 + σ 119 0) k).1 := by rw [tkn_c (f 9 (by decide))]; exact hk
    have e0 : σ 10 k = (mf_extend_it14 μ r k).1 1 (1384 + 8 * k + 0) := by rw [← i1.1.cr.tick ht (c := 0) (by decide), f (10 + 0) (by decide)]
    have e5 : σ 15 k = (mf_extend_it14 μ r k).1 1 (1384 + 8 * k + 5) := by rw [← i1.1.cr.tick ht (c := 5) (by decide), f (10 + 5) (by decide)]
    have e4 : (tk_post_it5 σ n (nI r) (σ 0 7 + σ 119 0) k).1 14 k = (mf_extend_it14 μ r k).1 1 (1384 + 8 * k + 4) := i1.1.cr.tick ht (c := 4) (by decide)
    have en : σ 0 7 = μ 1 0 := h.1.cr.now
    have es : σ 119 0 = μ 1 1 := h.1.cr.set (j := 0) (by decide)
    rw [post_s, ext_s, ← e0, ← e5, ← e4, ← i2, ← en, ← es]
    by_cases c : σ 10 k = nI r
    · rw [if_pos c, if_pos c]
      by_cases c2 : σ 15 k = 0
      · rw [if_pos c2, if_pos c2]
        refine ⟨⟨i1.1.u14 ht, i1.2.u14 (by rw [f 0 (by decide)]; exact h.1.ti.1) ?_⟩, rfl⟩
        split
        · refine Or.inr ?_
          rw [f 0 (by decide)]
          exact now_lt h.1.ti h.1.se.1.1 (by have := h.1.se.1.2; omega)
        · exact Or.inl rfl
      · rw [if_neg c2, if_neg c2]; exact ⟨i1, i2⟩
    · rw [if_neg c, if_neg c]; exact ⟨i1, i2⟩
theorem eq_extend {σ μ : pr_I} (h : WT σ μ) {k : Nat} : WT (fx_extend σ k) (mf_extend μ k) ∧ fx_extend_r σ k = mf_extend_r μ k := by
  have e := ext_loop h (n := tkn σ) (r := k) (tkn σ) (Nat.le_refl _)
  unfold fx_extend fx_extend_r mf_extend mf_extend_r tk_post tk_post_r
  rw [h.1.cr.tn]; exact e
theorem eq_setSetting {σ μ : pr_I} (h : WT σ μ) {c : Nat} {z : Int32} (hc : c < 5) (hS : Se (pr_up σ 119 c z)) : WT (fx_setSetting σ c z) (mf_setSetting μ c z) ∧ fx_setSetting_r σ c z = mf_setSetting_r μ c z := by
  have h4 := wI_nr4 h.1.cr.w
  have H := h.1.mu
  have cA1 : cA (1 + c) = (119, c) := by
    unfold cA; rw [if_neg (by omega), if_pos (by omega)]; congr 1; omega
  have mb : mB 1 (1 + c) = none := by
    rcases (by omega : c = 0 ∨ c = 1 ∨ c = 2 ∨ c = 3 ∨ c = 4) with rfl | rfl | rfl | rfl | rfl <;> rfl
  have k : ∀ o, o ≠ 119 → pr_up σ 119 c z o = σ o := fun o a => pr_up_ne a
  have C := H.cr.u (v := z) cA1 (by omega) (by omega) (wI.upn H.cr.w rfl) (mI.upn H.cr.m mb)
  have km : ∀ j, kp j → pr_up (pr_up μ 0 6 (0 : Int32)) 1 (1 + c) z 1 j = (pr_up μ 0 6 (0 : Int32)) 1 j := fun j hj => by unfold kp at hj; rw [pr_upk (by omega)]
  unfold fx_setSetting fx_setSetting_r mf_setSetting mf_setSetting_r
  refine ⟨⟨⟨C, H.up.of (k 1 (by decide)) km (wI_nl24 H.cr.w), H.pa.of (k 1 (by decide)) (k 18 (by decide)) (k 32 (by decide)) (fun r _ => k _ (by omega)) km H.cr.w, H.lk.of (by rw [k 0 (by decide)]) (by rw [k 1 (by decide)]) (k 2 (by decide)) (k 3 (by decide)) (k 4 (by decide)) (k 5 (by decide)) (k 6 (by decide)), H.rq.of (by rw [k 0 (by decide)]) (by rw [k 18 (by decide)]) (k 19 (by decide)) (k 20 (by decide)) (k 21 (by decide)) (k 22 (by decide)), hS, H.ti.of (by rw [k 0 (by decide)]), fun r hr => ?_⟩, h.2.cong (fun o ho => k o ?_)⟩, h.1.cr.set hc⟩
  · have hr' : r < rqn σ := hr
    exact (H.sr hr').of (k _ (by omega)) (k _ (by omega)) (k _ (by omega)) (k _ (by omega)) (by rw [k _ (by omega)]) (k _ (by omega)) (k _ (by omega)) (by rw [k _ (by omega)]) (by rw [k _ (by omega)])
  · simp only [List.mem_cons, List.not_mem_nil, or_false] at ho; omega
theorem eq_setCapacity {σ μ : pr_I} (h : WT σ μ) {l : Nat} {z : Int32} (hl : l < lkn σ) (hz : 0 ≤ z.toInt ∧ z.toInt ≤ 1000) : WT (fx_setCapacity σ l z) (mf_setCapacity μ l z) ∧ fx_setCapacity_r σ l z = mf_setCapacity_r μ l z := by
  have h4 := wI_nr4 h.1.cr.w
  have h24 := wI_nl24 h.1.cr.w
  have H := h.1.mu
  have ep : σ 7 l = m_prom_r (pr_up μ 0 6 (0 : Int32)) (mtn μ) (nI l) := by
    unfold m_prom_r; rw [h.1.cr.tn]; exact H.cr.pr hl
  have ec : σ 4 l = μ 1 (96 + 7 * l + 2) := h.1.cr.link hl (c := 2) (by decide)
  unfold fx_setCapacity fx_setCapacity_r mf_setCapacity mf_setCapacity_r
  rw [← ep, ← ec]
  by_cases c : σ 7 l ≤ z
  · rw [if_pos c, if_pos c, if_pos c]
    have k : ∀ o, o ≠ 4 → pr_up σ 4 l z o = σ o := fun o a => pr_up_ne a
    have C := H.cr.u (v := z) (cA_link (k := l) (c := 2) (by omega) (by decide)) (by omega) (by omega) (wI.upn H.cr.w rfl) (mI.upn H.cr.m ((mW_link (k := l) (c := 2) (by omega) (by decide)).trans rfl))
    have km : ∀ j, kp j → pr_up (pr_up μ 0 6 (0 : Int32)) 1 (96 + 7 * l + 2) z 1 j = (pr_up μ 0 6 (0 : Int32)) 1 j := fun j hj => by unfold kp at hj; rw [pr_upk (by omega)]
    refine ⟨⟨⟨C, H.up.of (k 1 (by decide)) km (wI_nl24 H.cr.w), H.pa.of (k 1 (by decide)) (k 18 (by decide)) (k 32 (by decide)) (fun r _ => k _ (by omega)) km H.cr.w, fun i hi => ?_, H.rq.of (by rw [k 0 (by decide)]) (by rw [k 18 (by decide)]) (k 19 (by decide)) (k 20 (by decide)) (k 21 (by decide)) (k 22 (by decide)), H.se.of (k 119 (by decide)), H.ti.of (by rw [k 0 (by decide)]), fun r hr => ?_⟩, h.2.cong (fun o ho => k o ?_)⟩, rfl⟩
    · have hi' : i < lkn σ := hi
      obtain ⟨l1, l2, l3, l4, l5, l6⟩ := H.lk i hi'
      refine ⟨l1, l2, l3, l4, l5, ?_⟩
      show 0 ≤ (pr_up σ 4 l z 4 i).toInt ∧ (pr_up σ 4 l z 4 i).toInt ≤ 1000
      by_cases e : i = l
      · rw [e, pr_upe]; exact hz
      · rw [pr_upk e]; exact l6
    · have hr' : r < rqn σ := hr
      exact (H.sr hr').of (k _ (by omega)) (k _ (by omega)) (k _ (by omega)) (k _ (by omega)) (by rw [k _ (by omega)]) (k _ (by omega)) (k _ (by omega)) (by rw [k _ (by omega)]) (by rw [k _ (by omega)])
    · simp only [List.mem_cons, List.not_mem_nil, or_false] at ho; omega
  · rw [if_neg c, if_neg c, if_neg c]
    exact ⟨h.mu, rfl⟩
