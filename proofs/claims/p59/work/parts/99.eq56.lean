/-! A WORLD COPIED: only the live cells count -/
theorem Wd.cells {σ μ μ' : pr_I} (h : Wd σ μ) (hm : mI μ') (h1 : ∀ j, j < 5384 → μ' 1 j = μ 1 j) : Wd σ μ' := by
  have h4 := wI_nr4 h.cr.w
  have h5 := wI_n5 h.cr.w
  have h24 := wI_nl24 h.cr.w
  have C : Cr σ μ' := by
    refine ⟨h.cr.w, hm, ?_, fun t => h.cr.tl, fun t => h.cr.pc, fun k hk => ?_⟩
    · refine h.cr.rc.cong (fun o _ => rfl) (fun j hj => h1 j ?_)
      rcases hj with a | ⟨k, c, a, b, _, e⟩ | ⟨r, c, a, b, e⟩ | ⟨t, c, a, b, e⟩ <;> omega
    · rw [prom_congr (n := tkn σ) (μ := μ) _ (fun t ht c hc => h1 _ (by omega))]
      exact h.cr.pr hk
  refine h.keep C (fun o _ => rfl) (fun r _ => rfl) (fun j hj => h1 j ?_) (fun r hr => h.sr hr)
  unfold kp at hj; omega
theorem WT.cells {σ μ μ' : pr_I} (h : WT σ μ) (hm : mI μ') (h1 : ∀ j, j < 5384 → μ' 1 j = μ 1 j) : WT σ μ' := ⟨h.1.cells hm h1, h.2⟩
/-- the live cells -/
def Lv (σ σ' : pr_I) : Prop := (σ' 0 6 = σ 0 6 ∧ σ' 0 7 = σ 0 7 ∧ σ' 1 7 = σ 1 7 ∧ σ' 1 8 = σ 1 8 ∧ σ' 9 8 = σ 9 8 ∧ σ' 18 17 = σ 18 17) ∧ (∀ o k, 2 ≤ o → o ≤ 8 → k < lkn σ → σ' o k = σ o k) ∧ (∀ o t, 10 ≤ o → o ≤ 17 → t < tkn σ → σ' o t = σ o t) ∧ (∀ o r, 19 ≤ o → o ≤ 33 → r < rqn σ → σ' o r = σ o r) ∧ (∀ r p, r < rqn σ → p < 11 → σ' (35 + r) p = σ (35 + r) p ∧ σ' (76 + r) p = σ (76 + r) p) ∧ ∀ j, j < 5 → σ' 119 j = σ 119 j
section LV
variable {σ σ' μ : pr_I}
theorem Lv.nl (h : Lv σ σ') : lkn σ' = lkn σ := by unfold lkn; rw [h.1.2.2.2.1]
theorem Lv.nt (h : Lv σ σ') : tkn σ' = tkn σ := by unfold tkn; rw [h.1.2.2.2.2.1]
theorem Lv.nr (h : Lv σ σ') : rqn σ' = rqn σ := by unfold rqn; rw [h.1.2.2.2.2.2]
theorem Lv.nn (h : Lv σ σ') : ndn σ' = ndn σ := by unfold ndn; rw [h.1.1]
theorem Lv.rc {nl nr nt : Nat} (h : Lv σ σ') (e1 : nl = lkn σ) (e2 : nr = rqn σ) (e3 : nt = tkn σ) (l1 : nl ≤ 24) (l2 : nr ≤ 40) (hr : RC nl nr nt σ μ) : RC nl nr nt σ' μ := fun j hj => by
  rw [← hr j hj]
  obtain ⟨⟨a1, a2, a3, a4, a5, a6⟩, b, c, d, _, f⟩ := h
  rcases hj with z | ⟨k, c', k1, k2, k3, e⟩ | ⟨r, c', k1, k2, e⟩ | ⟨t, c', k1, k2, e⟩
  · rcases (by omega : j = 0 ∨ j = 1 ∨ j = 2 ∨ j = 3 ∨ j = 4 ∨ j = 5 ∨ j = 6 ∨ j = 7 ∨ j = 8 ∨ j = 9) with rfl | rfl | rfl | rfl | rfl | rfl | rfl | rfl | rfl | rfl
    · exact a2
    · exact f 0 (by decide)
    · exact f 1 (by decide)
    · exact f 2 (by decide)
    · exact f 3 (by decide)
    · exact f 4 (by decide)
    · exact a1
    · exact a4
    · exact a6
    · exact a5
  · by_cases c6 : c' = 6
    · rw [e, c6, cA_fail (by omega)]; exact b 8 k (by decide) (by decide) (by omega)
    · rw [e, cA_link (by omega) (by omega)]; exact b (2 + c') k (by omega) (by omega) (by omega)
  · rw [e, cA_req (by omega) k2]; exact d (19 + c') r (by omega) (by omega) (by omega)
  · rw [e, cA_tick k2]; exact c (10 + c') t (by omega) (by omega) (by omega)
theorem Lv.sr (h : Lv σ σ') (hw : wI σ) {r : Nat} (hr : r < rqn σ) (s : Sr σ r) : Sr σ' r := by
  have h4 := wI_nr4 hw
  have l32 := vp_in_lt (hw 32 r 12 rfl)
  obtain ⟨_, b, c, d, p, f⟩ := h
  have e9 : tkn σ' = tkn σ := Lv.nt (σ := σ) (σ' := σ') ⟨by assumption, b, c, d, p, f⟩
  unfold Sr at s ⊢
  rw [d 23 r (by decide) (by decide) hr, d 25 r (by decide) (by decide) hr]
  refine ⟨s.1, fun q => ?_, s.2.2.1, fun q => ?_⟩
  · obtain ⟨p1, p2, p3, p4⟩ := s.2.1 q
    unfold Pt
    rw [d 32 r (by decide) (by decide) hr, d 33 r (by decide) (by decide) hr, e9]
    refine ⟨p1, p2, fun i j hij hj => ?_, fun i hi => ?_⟩
    · rw [(p r i hr (by omega)).1, (p r j hr (by omega)).1]; exact p3 i j hij hj
    · obtain ⟨t, t1, t2, t3, t4, t5⟩ := p4 i hi
      refine ⟨t, t1, by rw [(p r i hr (by omega)).2]; exact t2, by rw [c 10 t (by decide) (by decide) t1]; exact t3, by rw [c 11 t (by decide) (by decide) t1, (p r i hr (by omega)).1]; exact t4, fun t' h1 h2 => ?_⟩
      rw [c 10 t' (by decide) (by decide) h2, c 11 t' (by decide) (by decide) h2, (p r i hr (by omega)).1]
      exact t5 t' h1 h2
  · obtain ⟨t, t1, t2, t3⟩ := s.2.2.2 q
    unfold Pk
    rw [e9]
    exact ⟨t, t1, by rw [c 10 t (by decide) (by decide) t1]; exact t2, by rw [c 11 t (by decide) (by decide) t1, (p r 0 hr (by decide)).1]; exact t3⟩
theorem Lv.wd (h : Lv σ σ') (hw' : wI σ') (w : Wd σ μ) : Wd σ' μ := by
  have h4 := wI_nr4 w.cr.w
  have h24 := wI_nl24 w.cr.w
  have e1 := h.nl
  have e2 := h.nr
  have e3 := h.nt
  have e4 := h.nn
  have C : Cr σ' μ := by
    refine ⟨hw', w.cr.m, ?_, fun t ht => ?_, fun t ht => ?_, fun k hk => ?_⟩
    · rw [e1, e2, e3]; exact h.rc rfl rfl rfl h24 h4 w.cr.rc
    · rw [e3] at ht
      rw [e1, e2, h.2.2.1 10 t (by decide) (by decide) ht, h.2.2.1 11 t (by decide) (by decide) ht]; exact w.cr.tl ht
    · rw [e3] at ht
      rw [h.2.2.1 16 t (by decide) (by decide) ht]; exact w.cr.pc ht
    · rw [e1] at hk
      rw [e3, h.2.1 7 k (by decide) (by decide) hk]; exact w.cr.pr hk
  refine ⟨C, fun k hk => ?_, fun r p hr hp => ?_, fun k hk => ?_, fun r hr => ?_, ?_, ?_, fun r hr => ?_⟩
  · rw [e1] at hk
    unfold lk_up; rw [h.1.2.2.1]; exact w.up k hk
  · rw [e2] at hr
    have l32 := vp_in_lt (w.cr.w 32 r 12 rfl)
    rw [h.2.2.2.1 32 r (by decide) (by decide) hr] at hp
    rw [(h.2.2.2.2.1 r p hr (by omega)).1, e1]; exact w.pa r p hr hp
  · rw [e1] at hk
    have q : ∀ o, 2 ≤ o → o ≤ 8 → σ' o k = σ o k := fun o a b => h.2.1 o k a b hk
    rw [q 2 (by decide) (by decide), q 3 (by decide) (by decide), q 4 (by decide) (by decide), q 5 (by decide) (by decide), q 6 (by decide) (by decide), e4]; exact w.lk k hk
  · rw [e2] at hr
    have q : ∀ o, 19 ≤ o → o ≤ 33 → σ' o r = σ o r := fun o a b => h.2.2.2.1 o r a b hr
    rw [q 19 (by decide) (by decide), q 20 (by decide) (by decide), q 21 (by decide) (by decide), q 22 (by decide) (by decide), e4]; exact w.rq r hr
  · unfold Se
    rw [h.2.2.2.2.2 0 (by decide), h.2.2.2.2.2 1 (by decide), h.2.2.2.2.2 2 (by decide), h.2.2.2.2.2 3 (by decide), h.2.2.2.2.2 4 (by decide)]; exact w.se
  · unfold Ti; rw [h.1.2.1]; exact w.ti
  · rw [e2] at hr; exact h.sr w.cr.w hr (w.sr hr)
theorem Lv.tm (h : Lv σ σ') (t : Tm σ) : Tm σ' := by
  have e2 := h.nr
  have e3 := h.nt
  refine ⟨fun i hi => ?_, fun r hr => ?_, fun r hr => ?_⟩
  · rw [e3] at hi
    rw [h.2.2.1 14 i (by decide) (by decide) hi, h.2.2.1 15 i (by decide) (by decide) hi, h.1.2.1]; exact t.1 i hi
  · rw [e2] at hr
    rw [h.2.2.2.1 23 r (by decide) (by decide) hr, h.2.2.2.1 30 r (by decide) (by decide) hr, h.1.2.1]; exact t.2.1 r hr
  · rw [e2] at hr
    rw [h.2.2.2.1 25 r (by decide) (by decide) hr, h.1.2.1]; exact t.2.2 r hr
theorem Lv.tx (h : Lv σ σ') (t : Tx σ) : Tx σ' := by
  have e2 := h.nr
  have e3 := h.nt
  refine ⟨fun i hi => ?_, fun r hr => ?_⟩
  · rw [e3] at hi
    rw [h.2.2.1 12 i (by decide) (by decide) hi]; exact t.1 i hi
  · rw [e2] at hr
    rw [h.2.2.2.1 23 r (by decide) (by decide) hr, h.2.2.2.1 30 r (by decide) (by decide) hr, h.2.2.2.1 22 r (by decide) (by decide) hr, h.1.2.1]; exact t.2 r hr
end LV
/-! the class' copy has them -/
theorem cpp {σ τ : pr_I} {nr : Nat} : ∀ k, k ≤ 40 → ∀ r, r < k → ∀ p, p < 11 → rq_cp_it265 σ τ nr k (35 + r) p = τ (35 + r) p ∧ rq_cp_it265 σ τ nr k (76 + r) p = τ (76 + r) p
  | 0, _, r, hr, _, _ => absurd hr (by omega)
  | k + 1, hk, r, hr, p, hp => by
    have s : rq_cp_it265 σ τ nr (k + 1) = (pr_row (pr_row (rq_cp_it265 σ τ nr k) (35 + k) (cp_row (τ (35 + k)) ((rq_cp_it265 σ τ nr k) (35 + k)) 11)) (76 + k) (cp_row (τ (76 + k)) ((rq_cp_it265 σ τ nr k) (76 + k)) 11)) := by rw [rq_cp_it265]
    rw [s]
    by_cases e : r = k
    · subst e
      rw [pr_row_ne (show 35 + r ≠ 76 + r by omega), pr_row_eq, pr_row_eq]
      unfold cp_row
      rw [if_pos hp, if_pos hp]; exact ⟨rfl, rfl⟩
    · rw [pr_row_ne (show 35 + r ≠ 76 + k by omega), pr_row_ne (show 35 + r ≠ 35 + k by omega), pr_row_ne (show 76 + r ≠ 76 + k by omega), pr_row_ne (show 76 + r ≠ 35 + k by omega)]
      exact cpp k (by omega) r (by omega) p hp
theorem cp_lt {f g : Nat → Int32} {n j : Nat} (h : j < n) : cp_row f g n j = f j := if_pos h
theorem cp_ge {f g : Nat → Int32} {n j : Nat} (h : ¬ j < n) : cp_row f g n j = g j := if_neg h
theorem w_cp_lv {σ τ : pr_I} (hW : wI τ) : Lv τ (wcp σ τ) := by
  have h4 := wI_nr4 hW
  have low : ∀ o, o ≠ 119 → o ≠ 0 → wcp σ τ o = rq_cp (tk_cp (lk_cp σ τ (lkn τ)) τ (tkn τ)) τ (rqn τ) o := fun o a b => by
    unfold wcp w_cp; rw [pr_up_ne b, pr_up_ne b, pr_row_ne a]
  have rqf : ∀ o, o < 18 → rq_cp (tk_cp (lk_cp σ τ (lkn τ)) τ (tkn τ)) τ (rqn τ) o = tk_cp (lk_cp σ τ (lkn τ)) τ (tkn τ) o := fun o ho => fr_rq_cp (by simp only [List.mem_cons, List.not_mem_nil, or_false, forall_eq_or_imp, forall_eq]; omega) (by omega) h4
  have tkf : ∀ o, o < 9 → tk_cp (lk_cp σ τ (lkn τ)) τ (tkn τ) o = lk_cp σ τ (lkn τ) o := fun o ho => fr_tk_cp (by simp only [List.mem_cons, List.not_mem_nil, or_false, forall_eq_or_imp, forall_eq]; omega)
  refine ⟨⟨?_, ?_, ?_, ?_, ?_, ?_⟩, fun o k h1 h2 hk => ?_, fun o t h1 h2 ht => ?_, fun o r h1 h2 hr => ?_, fun r p hr hp => ?_, fun j hj => ?_⟩
  · unfold wcp w_cp; rw [pr_upk (by decide), pr_upe]
  · unfold wcp w_cp; rw [pr_upe]
  · rw [low 1 (by decide) (by decide), rqf 1 (by decide), tkf 1 (by decide)]; rfl
  · rw [low 1 (by decide) (by decide), rqf 1 (by decide), tkf 1 (by decide)]
    have e : lk_cp σ τ (lkn τ) 1 8 = nI (lkn τ) := rfl
    rw [e]; exact (wI_nl hW).symm
  · rw [low 9 (by decide) (by decide), rqf 9 (by decide)]
    have e : tk_cp (lk_cp σ τ (lkn τ)) τ (tkn τ) 9 8 = nI (tkn τ) := rfl
    rw [e]; exact (wI_n hW).symm
  · rw [low 18 (by decide) (by decide)]
    have e : rq_cp (tk_cp (lk_cp σ τ (lkn τ)) τ (tkn τ)) τ (rqn τ) 18 17 = nI (rqn τ) := congrFun (fr_rq_cp_it265 (fun m hm => by cases hm) (by decide) h4) 17
    rw [e]; exact (wI_nr hW).symm
  · rw [low o (by omega) (by omega), rqf o (by omega), tkf o (by omega)]
    rcases (by omega : o = 2 ∨ o = 3 ∨ o = 4 ∨ o = 5 ∨ o = 6 ∨ o = 7 ∨ o = 8) with rfl | rfl | rfl | rfl | rfl | rfl | rfl <;> exact cp_lt hk
  · rw [low o (by omega) (by omega), rqf o (by omega)]
    rcases (by omega : o = 10 ∨ o = 11 ∨ o = 12 ∨ o = 13 ∨ o = 14 ∨ o = 15 ∨ o = 16 ∨ o = 17) with rfl | rfl | rfl | rfl | rfl | rfl | rfl | rfl <;> exact cp_lt ht
  · rw [low o (by omega) (by omega)]
    have e := congrFun (fr_rq_cp_it265 (σ := tk_cp (lk_cp σ τ (lkn τ)) τ (tkn τ)) (τ := τ) (nr := rqn τ) (o := o) (fun m hm => by cases hm) (by omega) (k := rqn τ) h4) r
    refine Eq.trans e ?_
    rcases (by omega : o = 19 ∨ o = 20 ∨ o = 21 ∨ o = 22 ∨ o = 23 ∨ o = 24 ∨ o = 25 ∨ o = 26 ∨ o = 27 ∨ o = 28 ∨ o = 29 ∨ o = 30 ∨ o = 31 ∨ o = 32 ∨ o = 33) with rfl | rfl | rfl | rfl | rfl | rfl | rfl | rfl | rfl | rfl | rfl | rfl | rfl | rfl | rfl <;> exact cp_lt hr
  · rw [low _ (by omega) (by omega), low _ (by omega) (by omega)]
    exact cpp (rqn τ) h4 r hr p hp
  · unfold wcp w_cp
    rw [pr_up_ne (show (119 : Nat) ≠ 0 by decide), pr_up_ne (show (119 : Nat) ≠ 0 by decide), pr_row_eq]
    exact cp_lt hj
/-- all that is kept of a world on both sides -/
def WX (σ μ : pr_I) : Prop := WT σ μ ∧ Tx σ ∧ (σ 0 7).toInt ≤ 1000000
theorem WX.live {σ σ' μ : pr_I} (h : WX σ μ) (l : Lv σ σ') (hw : wI σ') : WX σ' μ := ⟨⟨l.wd hw h.1.1, l.tm h.1.2⟩, l.tx h.2.1, by rw [l.1.2.1]; exact h.2.2⟩
theorem WX.cp {σ τ μ : pr_I} (h : WX τ μ) (hI : wI σ) : WX (wcp σ τ) μ :=
  h.live (w_cp_lv h.1.1.cr.w) (wI_w_cp hI h.1.1.cr.w (wI_nl24 h.1.1.cr.w) (wI_n5 h.1.1.cr.w) (wI_nr4 h.1.1.cr.w))
theorem WX.cells {σ μ μ' : pr_I} (h : WX σ μ) (hm : mI μ') (h1 : ∀ j, j < 5384 → μ' 1 j = μ 1 j) : WX σ μ' := ⟨h.1.cells hm h1, h.2⟩
/-- the reference's copies of its row -/
theorem mI.rowA {X : pr_I} {o : Nat} {f : Nat → Int32} (h : mI X) (hf : ∀ j B, mB o j = some B → vp_in (f j) B) : mI (pr_row X o f) := fun o' j B q => by
  unfold pr_row
  by_cases c : o' = o
  · rw [if_pos c]; rw [c] at q; exact hf j B q
  · rw [if_neg c]; exact h o' j B q
theorem mB_rowA {a b j : Nat} (ha : 1 ≤ a ∧ a < 6) (hb : 1 ≤ b ∧ b < 6) : mB a j = mB b j := by
  unfold mB
  rw [if_neg (by omega), if_pos ha.2, if_neg (by omega), if_pos hb.2]
theorem mI.cpA {X : pr_I} {a : Nat} {f g : Nat → Int32} {n : Nat} (h : mI X) (ha : 1 ≤ a ∧ a < 6) (hf : ∀ j B, mB 1 j = some B → vp_in (f j) B) (hg : ∀ j B, mB 1 j = some B → vp_in (g j) B) : mI (pr_row X a (cp_row f g n)) := h.rowA (fun j B q => by
  rw [mB_rowA ha (b := 1) ⟨by decide, by decide⟩] at q
  unfold cp_row
  split
  · exact hf j B q
  · exact hg j B q)
theorem mI.rwA {X : pr_I} (h : mI X) {a : Nat} (ha : 1 ≤ a ∧ a < 6) : ∀ j B, mB 1 j = some B → vp_in (X a j) B := fun j B q => by
  rw [mB_rowA (b := a) ⟨by decide, by decide⟩ ha] at q
  exact h a j B q
