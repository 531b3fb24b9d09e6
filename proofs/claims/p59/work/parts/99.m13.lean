/-! WHAT THE LAW FORESEES -/
section FOR
variable {σ σ' μ : pr_I}
theorem J.live (j : J σ) (h : Lv σ σ') (hw : wI σ) (hL : Lk σ) (h4 : rqn σ ≤ 40) : J σ' := by
  have e1 := h.nl
  have e2 := h.nr
  have e3 := h.nt
  obtain ⟨_, hl, ht, hr, hp, hs⟩ := h
  have kp' : ∀ t, t < tkn σ → tk_kp σ' t = tk_kp σ t := fun t h => by unfold tk_kp; rw [ht 15 t (by decide) (by decide) h]
  refine ⟨fun t h => ?_, fun r h => ?_, fun l h => ?_⟩
  · rw [e3] at h
    obtain ⟨b1, b2, b3, b4, b5, b6, b7⟩ := j.1 t h
    unfold Jt
    rw [e1, e2, kp' t h, ht 10 t (by decide) (by decide) h, ht 11 t (by decide) (by decide) h, ht 12 t (by decide) (by decide) h, ht 14 t (by decide) (by decide) h, ht 15 t (by decide) (by decide) h, ht 16 t (by decide) (by decide) h, ht 17 t (by decide) (by decide) h, hr 21 _ (by decide) (by decide) (vp_in_lt b1)]
    exact ⟨b1, b2, b3, b4, b5, b6, b7⟩
  · rw [e2] at h
    obtain ⟨a1, a2, a3, a4, a5, a6⟩ := j.2.1 r h
    have R : ∀ o, 19 ≤ o → o ≤ 33 → σ' o r = σ o r := fun o x y => hr o r x y h
    have el : pln σ' r = pln σ r := by unfold pln; rw [R 32 (by decide) (by decide)]
    have l12 : pln σ r < 12 := vp_in_lt (hw 32 r 12 rfl)
    have P : ∀ p, p < pln σ r → σ' (35 + r) p = σ (35 + r) p := fun p hp' => (hp r p h (by omega)).1
    have er : ∀ p, p ≤ pln σ r → rnd σ' r p = rnd σ r p := fun p hp' => by
      cases p with
      | zero => exact R 19 (by decide) (by decide)
      | succ p =>
        have c := (a2.1 p (by omega)).1
        show σ' 3 (σ' (35 + r) p).toNatClampNeg = σ 3 _
        rw [P p (by omega), hl 3 _ (by decide) (by decide) (vp_in_lt c)]
    refine ⟨fun t h' e k => ?_, ⟨fun p hp' => ?_, fun z => ?_⟩, a3.cong (hs 2 (by decide)) (fun o ho => ?_), ?_, ?_, ?_⟩
    · rw [e3] at h'
      rw [ht 10 t (by decide) (by decide) h'] at e
      rw [kp' t h'] at k
      rw [R 23 (by decide) (by decide)]
      exact a1 t h' e k
    · rw [el] at hp'
      obtain ⟨c1, c2, c3⟩ := a2.1 p hp'
      rw [e1, P p hp', hl 2 _ (by decide) (by decide) (vp_in_lt c1), er p (by omega), R 23 (by decide) (by decide), R 28 (by decide) (by decide)]
      exact ⟨c1, c2, c3⟩
    · rw [el] at z ⊢
      rw [er _ (Nat.le_refl _), R 20 (by decide) (by decide)]
      exact a2.2 z
    · simp only [List.mem_cons, List.not_mem_nil, or_false] at ho
      exact R o (by omega) (by omega)
    · unfold Js
      rw [R 21 (by decide) (by decide), R 22 (by decide) (by decide)]; exact a4
    · rw [R 26 (by decide) (by decide), e3, S32_l (tkn σ) (fun t h' => ⟨ht 10 t (by decide) (by decide) h', ht 16 t (by decide) (by decide) h'⟩)]; exact a5
    · rw [R 27 (by decide) (by decide), e3, S32_l (tkn σ) (fun t h' => ⟨ht 10 t (by decide) (by decide) h', ht 17 t (by decide) (by decide) h'⟩)]; exact a6
  · rw [e1] at h
    rw [e3, Pu_l (tkn σ) (fun t h' => ⟨ht 11 t (by decide) (by decide) h', ht 12 t (by decide) (by decide) h', kp' t h'⟩), hl 4 l (by decide) (by decide) h]
    exact j.2.2 l h
theorem cnt_bd {nr : Nat} {s : Int32} : ∀ k, k ≤ 100 → 0 ≤ (rq_cnt_it4 σ nr s k).toInt ∧ (rq_cnt_it4 σ nr s k).toInt ≤ (k : Int)
  | 0, _ => ⟨Int.le_refl _, Int.le_refl _⟩
  | k + 1, hk => by
    have ih := cnt_bd (nr := nr) (s := s) k (by omega)
    have st : rq_cnt_it4 σ nr s (k + 1) = rq_cnt_it4 σ nr s k + (if (σ 23 k) = s then (1 : Int32) else (0 : Int32)) := rfl
    have i1' : (1 : Int32).toInt = 1 := rfl
    rw [st]
    by_cases c : σ 23 k = s
    · rw [if_pos c, i_add (by omega) (by omega), i1']; omega
    · rw [if_neg c, Int32.add_zero]; omega
theorem gn_bd {τ : pr_I} {s t : Nat} : ∀ j σ1, j ≤ 10 → -2 ≤ ((gn_rl τ s t j σ1).2).toInt ∧ ((gn_rl τ s t j σ1).2).toInt ≤ 1000
  | 0, σ1, _ => by
    have e : (gn_rl τ s t 0 σ1).2 = -1 := rfl
    rw [e]; decide
  | j + 1, σ1, hj => by
    rw [gn_rl]
    have b := gw_b j (by omega)
    split
    · dsimp only; decide
    · split
      · exact gn_bd j _ (by omega)
      · dsimp only; omega
theorem ad_eq {ω : pr_I} (hx : WX ω μ) {z : Int32} (z1 : z.toInt ≤ 2000) (h0 : 0 ≤ z.toInt) (hn : (μ 1 0).toInt ≤ 162) : fx_advance ω z = w_pt ω (ω 0 7 + z) := by
  have e := hx.now
  have t0 := hx.1.1.ti.1
  rw [e] at t0
  unfold fx_advance
  refine if_pos ?_
  rw [le_i, i_add (by rw [e]; omega) (by rw [e]; omega), e]
  have : (1000000 : Int32).toInt = 1000000 := rfl
  omega
theorem Inv.isP (h : Inv 18 σ μ) (hx' : WX σ' μ) (h9 : lkn σ = 9) (h5 : ndn σ = 5) : IsP σ' μ := by
  obtain ⟨hx, j, e6, e8, ca, tn⟩ := h
  have W := hx.1.1
  have hw := hx.w
  have h4 := wI_nr4 hw
  have n0 : (μ 1 0).toInt ≤ 162 := by rw [← hx.now]; exact tn
  have hω : WX (wcp σ σ) μ := hx.cp hw
  have jω : J (wcp σ σ) := j.live (w_cp_lv hw) hw W.lk h4
  have tω := hω.now
  have t0 : 0 ≤ (μ 1 0).toInt := by rw [← hx.now]; exact W.ti.1
  have erq : rqn σ' = rqn σ := by rw [← hx'.1.1.cr.rn, hx.1.1.cr.rn]
  obtain ⟨ω, hωe⟩ : ∃ ω, wcp σ σ = ω := ⟨_, rfl⟩
  have K6 : sl 1000000 = 1000000 := sl_eq 1000000
  -- quiet
  have Q : ∃ q, mf_ticksUntilQuiet_r μ = q ∧ 0 ≤ q.toInt ∧ fx_nextEvent_r (w_pt ω (ω 0 7 + q)) = -1 := by
    refine ⟨_, rfl, ?_⟩
    have e1 : mf_ticksUntilQuiet_r μ = w_pq_r ω := by
      rw [← (eq_ticksUntilQuiet hx hw).1, ← hωe]; rfl
    rw [hωe] at hω jω tω
    obtain ⟨L, hL⟩ : ∃ L, ω 0 7 + 20000 = L := ⟨_, rfl⟩
    have i2 : (20000 : Int32).toInt = 20000 := rfl
    have eL : L.toInt = (μ 1 0).toInt + 20000 := by rw [← hL, i_add (by rw [tω, i2]; omega) (by rw [tω, i2]; omega), tω, i2]
    have Wω := hω.1.1
    have T := pqT (L := L) (by omega) (by omega) (sl 1000000) ω μ Wω hω.1.2 hω.2.1 jω (by rw [K6, tω]; omega)
    obtain ⟨A1, A2, A3⟩ := pqA (L := L) (by omega) (sl 1000000) ω μ Wω hω.1.2 hω.2.1 T
    have A4 := A3 (sl 1000000) (Nat.le_refl _)
    have eq : w_pq_r ω = (itF (pqF L) (sl 1000000) (ω, w_next_r ω (tkn ω) (rqn ω))).1 0 7 - ω 0 7 := by
      unfold w_pq_r
      rw [pq_itF, hL, if_pos T]
    rw [e1, eq]
    generalize (itF (pqF L) (sl 1000000) (ω, w_next_r ω (tkn ω) (rqn ω))).1 = E at *
    have eb := (E 0 7).toInt_lt
    have ti := congrArg Int32.toInt tω
    have es : (E 0 7 - ω 0 7).toInt = (E 0 7).toInt - (ω 0 7).toInt := i_sub (by rw [tω]; omega) (by rw [tω]; omega)
    refine ⟨by rw [es]; omega, ?_⟩
    have ea : ω 0 7 + (E 0 7 - ω 0 7) = E 0 7 := by rw [Int32.add_comm, Int32.sub_add_cancel]
    rw [ea]
    have ef : w_pt ω (E 0 7) = E := A4
    rw [ef]
    exact A1
  obtain ⟨q, eq, q0, qn⟩ := Q
  have z0 : (0 : Int32).toInt = 0 := rfl
  have WTω : WX ω μ := by rw [← hωe]; exact hω
  refine ⟨?_, ?_, fun hr0 hn => ?_, fun υ hυ => ?_, fun hq0 hq1 υ hυ => ?_⟩
  · rw [eq, lt_i, z0]; omega
  · have wω : wI (w_cp σ σ (lkn σ) (tkn σ) (rqn σ)) := hω.w
    have a : 0 ≤ (mf_activeWithout_r μ 0 9).toInt ∧ (mf_activeWithout_r μ 0 9).toInt ≤ 40 := by
      rw [← (eq_activeWithout hx hw (k := 0) (z := 9) (by omega) (by decide) (by decide)).1]
      unfold fx_activeWithout_r
      rcases ite_or (p := (if lk_up (w_cp σ σ (lkn σ) (tkn σ) (rqn σ)) 0 = 0 then (0 : Int32) else 1) = 0) (rq_cnt_r (w_pt (w_cp σ σ (lkn σ) (tkn σ) (rqn σ)) (((w_cp σ σ (lkn σ) (tkn σ) (rqn σ)) 0 7) + 9)) (rqn (w_pt (w_cp σ σ (lkn σ) (tkn σ) (rqn σ)) (((w_cp σ σ (lkn σ) (tkn σ) (rqn σ)) 0 7) + 9))) (2 : Int32)) (rq_cnt_r (w_pt (w_close (w_cp σ σ (lkn σ) (tkn σ) (rqn σ)) (tkn (w_cp σ σ (lkn σ) (tkn σ) (rqn σ))) (rqn (w_cp σ σ (lkn σ) (tkn σ) (rqn σ))) 0) (((w_cp σ σ (lkn σ) (tkn σ) (rqn σ)) 0 7) + 9)) (rqn (w_pt (w_close (w_cp σ σ (lkn σ) (tkn σ) (rqn σ)) (tkn (w_cp σ σ (lkn σ) (tkn σ) (rqn σ))) (rqn (w_cp σ σ (lkn σ) (tkn σ) (rqn σ))) 0) (((w_cp σ σ (lkn σ) (tkn σ) (rqn σ)) 0 7) + 9))) (2 : Int32)) with e | e
      · rw [e]
        have w1 := wI_nr4 (wI_w_pt (lat := ((w_cp σ σ (lkn σ) (tkn σ) (rqn σ)) 0 7) + 9) wω)
        generalize w_pt (w_cp σ σ (lkn σ) (tkn σ) (rqn σ)) (((w_cp σ σ (lkn σ) (tkn σ) (rqn σ)) 0 7) + 9) = X at *
        have := cnt_bd (σ := X) (nr := rqn X) (s := 2) (rqn X) (by omega)
        unfold rq_cnt_r
        omega
      · rw [e]
        have w1 := wI_nr4 (wI_w_pt (lat := ((w_cp σ σ (lkn σ) (tkn σ) (rqn σ)) 0 7) + 9) (wI_w_close (n := tkn (w_cp σ σ (lkn σ) (tkn σ) (rqn σ))) (nr := rqn (w_cp σ σ (lkn σ) (tkn σ) (rqn σ))) (lk := 0) wω))
        generalize w_pt (w_close (w_cp σ σ (lkn σ) (tkn σ) (rqn σ)) (tkn (w_cp σ σ (lkn σ) (tkn σ) (rqn σ))) (rqn (w_cp σ σ (lkn σ) (tkn σ) (rqn σ))) 0) (((w_cp σ σ (lkn σ) (tkn σ) (rqn σ)) 0 7) + 9) = X at *
        have := cnt_bd (σ := X) (nr := rqn X) (s := 2) (rqn X) (by omega)
        unfold rq_cnt_r
        omega
    have b : -2 ≤ (mf_greatestNew_r μ 0 1).toInt ∧ (mf_greatestNew_r μ 0 1).toInt ≤ 1000 := by
      rw [← (eq_greatestNew hx hw (s := 0) (t := 1) (by omega) (by omega) (by decide)).1]
      unfold fx_greatestNew_r
      rw [sl_eq 10]
      exact gn_bd 10 σ (Nat.le_refl _)
    rw [lt_i, i_add (by omega) (by omega)]
    have : (-9 : Int32).toInt = -9 := by decide
    omega
  · rw [erq] at hr0
    have e1 : mf_ticksUntilActive_r μ 0 = w_pa_r ω 0 := by
      rw [← (eq_ticksUntilActive hx hw (k := 0) hr0).1, ← hωe]; rfl
    have tω' := WTω.now
    obtain ⟨L, hL⟩ : ∃ L, ω 0 7 + 2000 = L := ⟨_, rfl⟩
    have i2 : (2000 : Int32).toInt = 2000 := rfl
    have i1' : (1 : Int32).toInt = 1 := rfl
    have eL : L.toInt = (μ 1 0).toInt + 2000 := by rw [← hL, i_add (by rw [tω', i2]; omega) (by rw [tω', i2]; omega), tω', i2]
    have er : w_pa_r ω 0 = if (itF (paF L 0) (sl 1000000) ω) 23 0 = 2 then (itF (paF L 0) (sl 1000000) ω) 0 7 - ω 0 7 else -1 := by
      unfold w_pa_r
      rw [pa_itF, hL]
    rw [e1] at hn ⊢
    have s2 : (itF (paF L 0) (sl 1000000) ω) 23 0 = 2 := Classical.byContradiction fun z => by
      rw [er, if_neg z] at hn; exact absurd hn (by decide)
    rw [er, if_pos s2] at hn ⊢
    have Wω := WTω.1.1
    obtain ⟨A1, A2, A3⟩ := paA (L := L) (by omega) (r := 0) (sl 1000000) ω μ Wω WTω.1.2 WTω.2.1 s2
    have nst : ¬ ω 23 0 = 2 := fun z => by
      have w : rq_way_r ω 0 = 0 := way_0.mpr (fun y => by
        rw [z] at y
        rcases y with y | y | y <;> exact absurd y (by decide))
      rw [itF_fix (pa_stay w), Int32.sub_self] at hn
      exact absurd hn (by decide)
    obtain ⟨B1, B2⟩ := paB (L := L) (by omega) (r := 0) (sl 1000000) ω μ Wω WTω.1.2 WTω.2.1 nst s2
    have A4 := A3 (sl 1000000) (Nat.le_refl _)
    have B4 := B2 (sl 1000000) (Nat.le_refl _)
    have A5 := A2 (by rw [tω']; omega)
    generalize itF (paF L 0) (sl 1000000) ω = E at *
    have ti := congrArg Int32.toInt tω'
    have es : (E 0 7 - ω 0 7).toInt = (E 0 7).toInt - (ω 0 7).toInt := i_sub (by rw [tω']; omega) (by rw [tω']; omega)
    have es1 : (E 0 7 - ω 0 7 - 1).toInt = (E 0 7).toInt - (ω 0 7).toInt - 1 := by rw [i_sub (by rw [es]; omega) (by rw [es]; omega), es, i1']
    have ea : ω 0 7 + (E 0 7 - ω 0 7) = E 0 7 := by rw [Int32.add_comm, Int32.sub_add_cancel]
    have eb : ω 0 7 + (E 0 7 - ω 0 7 - 1) = E 0 7 - 1 := by
      rw [Int32.sub_eq_add_neg, Int32.sub_eq_add_neg, Int32.sub_eq_add_neg, ← Int32.add_assoc, ← Int32.sub_eq_add_neg (E 0 7) (ω 0 7), ea]
    have sa : ∀ z : Int32, 0 ≤ z.toInt → z.toInt ≤ 2000 → mf_stateAfter_r μ 0 z = (w_pt ω (ω 0 7 + z)) 23 0 := fun z z1 z2 => by
      rw [← (eq_stateAfter hx hw (k := 0) hr0 z1 z2).1, ← hωe]; rfl
    refine ⟨?_, ?_, ?_⟩
    · rw [le_i, es, i2, tω']; omega
    · rw [sa _ (by rw [es]; omega) (by rw [es, tω']; omega), ea]
      have ef : w_pt ω (E 0 7) = E := A4
      rw [ef]; exact s2
    · rw [sa _ (by rw [es1]; omega) (by rw [es1, tω']; omega), eb]
      exact B4
  · have i3 : (30 : Int32).toInt = 30 := rfl
    have P := af_eq hυ (z := 30) (by decide) (by decide)
    have P2 := af_eq WTω (z := 30) (by decide) (by decide)
    rw [ad_eq hυ (by decide) (by decide) n0]
    refine ⟨P.1.1.cr.w, ?_⟩
    have r1 : w_rev_r (w_pt υ (υ 0 7 + 30)) = mf_revenue_r (m_gn μ 30) := eq_revenue P.1
    have r2 : w_rev_r (w_pt ω (ω 0 7 + 30)) = mf_revenue_r (m_gn μ 30) := eq_revenue P2.1
    rw [r1, ← r2, ← (eq_revenueAfter hx hw (z := 30) (by decide) (by decide)).1, ← hωe]
    rfl
  · rw [eq] at hq0 hq1 ⊢
    have i3 : (1000 : Int32).toInt = 1000 := rfl
    rw [le_i, i3] at hq1
    have P := af_eq hυ (z := q) q0 (by omega)
    have P2 := af_eq WTω (z := q) q0 (by omega)
    have tυ := hυ.now
    have es : (υ 0 7 + q).toInt = (υ 0 7).toInt + q.toInt := i_add (by rw [tυ]; omega) (by rw [tυ]; omega)
    have PP := hυ.1.1.pass hυ.1.2 (z := q) (lat := υ 0 7 + q) q0 (by omega) es.symm (by rw [es, tυ]; omega)
    rw [ad_eq hυ (by omega) q0 n0]
    refine ⟨P.1.1.cr.w, PP.2.2.2, ?_⟩
    have r1 : fx_nextEvent_r (w_pt υ (υ 0 7 + q)) = mf_nextEvent_r (m_gn μ q) := eq_nextEvent P.1
    have r2 : fx_nextEvent_r (w_pt ω (ω 0 7 + q)) = mf_nextEvent_r (m_gn μ q) := eq_nextEvent P2.1
    rw [r1, ← r2]
    exact qn
end FOR
