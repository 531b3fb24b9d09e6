/-! WHAT IS FORESEEN: behind some ticks -/
theorem sum_congr {X Y : pr_I} (h : X 1 = Y 1) {c : Nat} : ∀ k, m_sum_it5 X c k = m_sum_it5 Y c k
  | 0 => rfl
  | k + 1 => by rw [m_sum_it5, m_sum_it5, sum_congr h k, h]
theorem many_congr {X Y : pr_I} (h : X 1 = Y 1) {s : Int32} : ∀ k, m_many_it4 X s k = m_many_it4 Y s k
  | 0 => rfl
  | k + 1 => by rw [m_many_it4, m_many_it4, many_congr h k, h]
/-- time passed in the copy -/
theorem af_eq {σ μ : pr_I} {z : Int32} (h : WX σ μ) (h0 : 0 ≤ z.toInt) (h1 : z.toInt ≤ 2000) : WT (w_pt σ (σ 0 7 + z)) (m_gn μ z) ∧ m_gn_ok μ z := by
  have t0 := h.1.1.ti.1
  have t1 := h.2.2
  have es : (σ 0 7 + z).toInt = (σ 0 7).toInt + z.toInt := i_add (by omega) (by omega)
  have P := h.1.1.pass h.1.2 h0 h1 es.symm (by omega)
  exact ⟨⟨P.1, P.2.2.1⟩, P.2.1⟩
theorem pt_keeps {σ μ : pr_I} {z : Int32} (h : WX σ μ) (h0 : 0 ≤ z.toInt) (h1 : z.toInt ≤ 2000) : lkn (w_pt σ (σ 0 7 + z)) = lkn σ ∧ rqn (w_pt σ (σ 0 7 + z)) = rqn σ := by
  have t1 := h.2.2
  have t0 := h.1.1.ti.1
  have es : (σ 0 7 + z).toInt = (σ 0 7).toInt + z.toInt := i_add (by omega) (by omega)
  have L : ∀ (K : Nat) (σ' μ' : pr_I), Wd σ' μ' → Tm σ' → Tx σ' → lkn (w_pt_it2 σ' (σ 0 7 + z) K) = lkn σ' ∧ rqn (w_pt_it2 σ' (σ 0 7 + z) K) = rqn σ' := by
    intro K
    induction K with
    | zero => intro σ' μ' _ _ _; exact ⟨rfl, rfl⟩
    | succ K ih =>
      intro σ' μ' a b d
      by_cases c : (σ 0 7 + z) ≤ σ' 0 7
      · rw [pt_stay c]; exact ⟨rfl, rfl⟩
      · rw [pt_shift c]
        have c' : (σ' 0 7).toInt < (σ 0 7 + z).toInt := by rw [le_i] at c; omega
        obtain ⟨μ2, a2, b2, d2, _, _⟩ := WX1 a b d c' (by omega)
        have i := ih (w_pn σ' (σ 0 7 + z)) μ2 a2 b2 d2
        have h4 := wI_nr4 a.cr.w
        have f : ∀ o, o = 1 ∨ o = 18 → w_pn σ' (σ 0 7 + z) o = σ' o := fun o ho => by
          have e := fr_w_pn_it34 (σ := σ') (lat := σ 0 7 + z) (o := o) (by simp only [List.mem_cons, List.not_mem_nil, or_false, forall_eq_or_imp, forall_eq]; omega) (by omega) (k := rqn σ') h4
          refine Eq.trans e ?_
          rw [fr_w_end (by simp only [List.mem_cons, List.not_mem_nil, or_false, forall_eq_or_imp, forall_eq]; omega), fr_w_exp (by simp only [List.mem_cons, List.not_mem_nil, or_false, forall_eq_or_imp, forall_eq]; omega), pr_up_ne (by omega)]
        rw [lkn_c (f 1 (Or.inl rfl)), rqn_c (f 18 (Or.inr rfl))] at i
        exact i
  exact L (sl 1000000) σ μ h.1.1 h.1.2 h.2.1
section AF
variable {σ τ μ : pr_I} {z : Int32}
theorem WX.aside (h : WX τ μ) (hI : wI σ) : WX (wcp σ τ) (pr_row (pr_up μ 0 6 (0 : Int32)) 2 (cp_row (μ 1) (μ 2) 5384)) := by
  rw [aw_eq]; exact (h.mu.aws).cp hI
theorem WX.back {Y : pr_I} (h : WX τ μ) (hY : mI Y) : WX τ (pr_row Y 1 (cp_row (cp_row (μ 1) (μ 2) 5384) (Y 1) 5384)) := by
  rw [bk_eq]; exact h.mu.bck hY
theorem eq_revenueAfter (h : WX τ μ) (hI : wI σ) (h0 : 0 ≤ z.toInt) (h1 : z.toInt ≤ 2000) : fx_revenueAfter_r σ τ z = mf_revenueAfter_r μ z ∧ m_gn_ok (pr_row (pr_up μ 0 6 (0 : Int32)) 2 (cp_row (μ 1) (μ 2) 5384)) z ∧ WX τ (mf_revenueAfter μ z) ∧ wI (fx_revenueAfter σ τ z) := by
  have A := h.aside hI
  obtain ⟨P1, P2⟩ := af_eq A h0 h1
  have E := eq_revenue P1
  refine ⟨?_, P2, h.back P1.1.cr.m, P1.1.cr.w⟩
  have e1 : fx_revenueAfter_r σ τ z = fx_revenue_r (w_pt (wcp σ τ) ((wcp σ τ) 0 7 + z)) := rfl
  rw [e1, E]
  unfold mf_revenue_r mf_revenueAfter_r m_sum_r
  rw [sum_congr (pr_up_ne (show (1 : Nat) ≠ 0 by decide)), sum_congr (pr_up_ne (show (1 : Nat) ≠ 0 by decide))]
  rfl
theorem eq_stateAfter (h : WX τ μ) (hI : wI σ) {k : Nat} (hk : k < rqn τ) (h0 : 0 ≤ z.toInt) (h1 : z.toInt ≤ 2000) : fx_stateAfter_r σ τ k z = mf_stateAfter_r μ k z ∧ m_gn_ok (pr_row (pr_up μ 0 6 (0 : Int32)) 2 (cp_row (μ 1) (μ 2) 5384)) z ∧ WX τ (mf_stateAfter μ k z) ∧ wI (fx_stateAfter σ τ k z) := by
  have A := h.aside hI
  obtain ⟨P1, P2⟩ := af_eq A h0 h1
  have K := (pt_keeps A h0 h1).2
  refine ⟨?_, P2, h.back P1.1.cr.m, P1.1.cr.w⟩
  exact P1.1.cr.req (r := k) (c := 4) (by rw [K, (w_cp_lv (σ := σ) h.1.1.cr.w).nr]; exact hk) (by decide)
theorem eq_availableAfter (h : WX τ μ) (hI : wI σ) {k : Nat} (hk : k < lkn τ) (h0 : 0 ≤ z.toInt) (h1 : z.toInt ≤ 2000) : fx_availableAfter_r σ τ k z = mf_availableAfter_r μ k z ∧ m_gn_ok (pr_row (pr_up μ 0 6 (0 : Int32)) 2 (cp_row (μ 1) (μ 2) 5384)) z ∧ WX τ (mf_availableAfter μ k z) ∧ wI (fx_availableAfter σ τ k z) := by
  have A := h.aside hI
  obtain ⟨P1, P2⟩ := af_eq A h0 h1
  have K := (pt_keeps A h0 h1).1
  refine ⟨?_, P2, h.back P1.1.cr.m, P1.1.cr.w⟩
  have av : lk_av (w_pt (wcp σ τ) ((wcp σ τ) 0 7 + z)) k = _ := eq_linkValue P1 (k := k) (by rw [K, (w_cp_lv (σ := σ) h.1.1.cr.w).nl]; exact hk) (c := 6) (by decide)
  exact av.trans (av_congr (pr_up_ne (by decide)))
theorem eq_activeWithout (h : WX τ μ) (hI : wI σ) {k : Nat} (hk : k < lkn τ) (h0 : 0 ≤ z.toInt) (h1 : z.toInt ≤ 2000) : fx_activeWithout_r σ τ k z = mf_activeWithout_r μ k z ∧ (((μ 1 (96 + 7 * k + 5)) = (1 : Int32) → m_dn_ok (pr_row (pr_up μ 0 6 (0 : Int32)) 2 (cp_row (μ 1) (μ 2) 5384)) k ∧ m_gn_ok (m_dn (pr_row (pr_up μ 0 6 (0 : Int32)) 2 (cp_row (μ 1) (μ 2) 5384)) k) z) ∧ (¬ (μ 1 (96 + 7 * k + 5)) = (1 : Int32) → m_gn_ok (pr_row (pr_up μ 0 6 (0 : Int32)) 2 (cp_row (μ 1) (μ 2) 5384)) z)) ∧ WX τ (mf_activeWithout μ k z) ∧ wI (fx_activeWithout σ τ k z) := by
  have h24 := wI_nl24 h.1.1.cr.w
  have A := h.aside hI
  have lv := w_cp_lv (σ := σ) h.1.1.cr.w
  have hk2 : k < lkn (wcp σ τ) := by rw [lv.nl]; exact hk
  have up := h.1.1.up k hk
  have up2 : lk_up (wcp σ τ) k = lk_up τ k := by unfold lk_up; rw [lv.1.2.2.1]
  have cnt : ∀ {S M : pr_I}, WT S M → rq_cnt_r S (rqn S) 2 = m_many_r M 2 := fun {S M} q => by
    unfold rq_cnt_r m_many_r
    rw [q.1.cr.rn, cnt_eq q.1.cr (rqn S) (Nat.le_refl _)]
    exact many_congr (pr_up_ne (by decide)) _
  unfold fx_activeWithout_r fx_activeWithout mf_activeWithout_r mf_activeWithout
  rw [show w_cp σ τ (lkn τ) (tkn τ) (rqn τ) = wcp σ τ from rfl, up2, ← up]
  have z1 : ¬ (1 : Int32) = 0 := by decide
  rcases up_01 (σ := τ) (k := k) (by omega) with c | c
  · obtain ⟨P1, P2⟩ := af_eq A h0 h1
    rw [c, if_pos rfl, if_pos rfl, if_pos rfl, if_neg (show ¬ (0 : Int32) = 1 by decide), if_neg (show ¬ (0 : Int32) = 1 by decide)]
    exact ⟨cnt P1, ⟨fun q => absurd q (by decide), fun _ => P2⟩, h.back P1.1.cr.m, P1.1.cr.w⟩
  · have C := A.1.1.close A.1.2 hk2
    have tx := Tx.close A.1.1 A.1.2 A.2.1 (n := tkn (wcp σ τ)) (nr := rqn (wcp σ τ)) rfl hk2 (rqn (wcp σ τ)) (Nat.le_refl _)
    have e0 : w_close (wcp σ τ) (tkn (wcp σ τ)) (rqn (wcp σ τ)) k 0 7 = (wcp σ τ) 0 7 := congrFun (fr_w_close (by decide)) 7
    have B : WX (w_close (wcp σ τ) (tkn (wcp σ τ)) (rqn (wcp σ τ)) k) (m_dn (pr_row (pr_up μ 0 6 (0 : Int32)) 2 (cp_row (μ 1) (μ 2) 5384)) k) := ⟨⟨C.1, C.2.2.1⟩, tx, by rw [e0]; exact A.2.2⟩
    obtain ⟨P1, P2⟩ := af_eq B h0 h1
    rw [e0] at P1
    rw [c, if_neg z1, if_neg z1, if_neg z1, if_pos rfl, if_pos rfl]
    exact ⟨cnt P1, ⟨fun _ => ⟨C.2.2.2, P2⟩, fun q => absurd rfl q⟩, h.back P1.1.cr.m, P1.1.cr.w⟩
end AF
/-! till a link has so many units -/
noncomputable def pvF (lat : Int32) (k : Nat) (u : Int32) (X : pr_I) : pr_I := if lat ≤ X 0 7 then X else (if u ≤ lk_av X k then X else w_pn X lat)
theorem pv_itF {σ : pr_I} {k : Nat} {u : Int32} : ∀ i, w_pv_it15 σ k u i = itF (pvF (σ 0 7 + 2000) k u) i σ
  | 0 => rfl
  | i + 1 => by rw [w_pv_it15, pv_itF i]; rfl
theorem pv_stay {lat u : Int32} {k : Nat} {X : pr_I} (w : u ≤ lk_av X k) : pvF lat k u X = X := by
  unfold pvF
  by_cases a : lat ≤ X 0 7
  · rw [if_pos a]
  · rw [if_neg a, if_pos w]
theorem tv_s {μ0 μ : pr_I} {k j : Nat} {u x : Int32} : mf_ticksUntilAvailable_fl48 μ0 k u (j + 1) μ x = (if u ≤ (m_av_r μ (mtn μ) k) then ((pr_row μ 1 (cp_row (cp_row (μ0 1) (μ0 2) 5384) (μ 1) 5384)), (if x ≤ (2000 : Int32) then x else ((-1) : Int32))) else (if (2000 : Int32) < x then ((pr_row μ 1 (cp_row (cp_row (μ0 1) (μ0 2) 5384) (μ 1) 5384)), (if x ≤ (2000 : Int32) then x else ((-1) : Int32))) else (mf_ticksUntilAvailable_fl48 μ0 k u j (m_ts (m_po μ ((2000 : Int32) - x))) ((x + (m_po_r μ ((2000 : Int32) - x))) + Int32.ofInt (1))))) := rfl
theorem tvo_s {μ0 μ : pr_I} {k j : Nat} {u x : Int32} : mf_ticksUntilAvailable_ok48 μ0 k u (j + 1) μ x = (if u ≤ (m_av_r μ (mtn μ) k) then True else (if (2000 : Int32) < x then True else ((m_ts_ok (m_po μ ((2000 : Int32) - x))) ∧ (mf_ticksUntilAvailable_ok48 μ0 k u j (m_ts (m_po μ ((2000 : Int32) - x))) ((x + (m_po_r μ ((2000 : Int32) - x))) + Int32.ofInt (1)))))) := rfl
theorem tv_end {μ0 μ : pr_I} {k j : Nat} {u x : Int32} (hx : x.toInt = 2001) : mf_ticksUntilAvailable_ok48 μ0 k u (j + 1) μ x ∧ (mf_ticksUntilAvailable_fl48 μ0 k u (j + 1) μ x).2 = -1 ∧ (mf_ticksUntilAvailable_fl48 μ0 k u (j + 1) μ x).1 = pr_row μ 1 (cp_row (cp_row (μ0 1) (μ0 2) 5384) (μ 1) 5384) := by
  rw [tv_s, tvo_s]
  have c1 : ¬ x ≤ 2000 := fun z => by have := le_i.mp z; rw [k2000] at this; omega
  have c2 : (2000 : Int32) < x := lt_i.mpr (by rw [k2000]; omega)
  by_cases c : u ≤ m_av_r μ (mtn μ) k
  · rw [if_pos c, if_pos c, if_neg c1]; exact ⟨trivial, rfl, rfl⟩
  · rw [if_neg c, if_neg c, if_pos c2, if_pos c2, if_neg c1]; exact ⟨trivial, rfl, rfl⟩
/-- a tick in which nothing happens changes no promised unit (the time alone) -/
theorem av_time {σ : pr_I} {T : Int32} {k : Nat} : lk_av (pr_up σ 0 7 T) k = lk_av σ k := by
  unfold lk_av
  rw [pr_up_ne (show (4 : Nat) ≠ 0 by decide), pr_up_ne (show (7 : Nat) ≠ 0 by decide)]
theorem av_wt {σ μ : pr_I} (h : WT σ μ) {k : Nat} (hk : k < lkn σ) : m_av_r μ (mtn μ) k = lk_av σ k := by
  have av : lk_av σ k = m_av_r (pr_up μ 0 6 (0 : Int32)) (mtn μ) k := eq_linkValue h hk (c := 6) (by decide)
  rw [av]; exact (av_congr (pr_up_ne (by decide))).symm
theorem pn_lkn {σ : pr_I} {lat : Int32} (h4 : rqn σ ≤ 40) : lkn (w_pn σ lat) = lkn σ := by
  have e := fr_w_pn_it34 (σ := σ) (lat := lat) (o := 1) (by decide) (by decide) (k := rqn σ) h4
  refine lkn_c (Eq.trans e ?_)
  rw [fr_w_end (by decide), fr_w_exp (by decide), pr_up_ne (by decide)]
theorem tv_go (μ0 : pr_I) {k : Nat} {u lat base : Int32} (hb : base.toInt + 2000 = lat.toInt) (h0 : 0 ≤ base.toInt) (hlat : lat.toInt ≤ 1090000) : ∀ d : Nat, ∀ (j K : Nat) (σ μ : pr_I) (x : Int32), Wd σ μ → Tm σ → k < lkn σ → 0 ≤ x.toInt → x.toInt + (d : Int) = 2000 → (σ 0 7).toInt + (d : Int) = lat.toInt → d + 2 ≤ j → d + 1 ≤ K →
    mf_ticksUntilAvailable_ok48 μ0 k u j μ x ∧ (mf_ticksUntilAvailable_fl48 μ0 k u j μ x).2 = (if lk_av (itF (pvF lat k u) K σ) k < u then -1 else (itF (pvF lat k u) K σ) 0 7 - base) ∧ ∃ Y, mI Y ∧ (mf_ticksUntilAvailable_fl48 μ0 k u j μ x).1 = pr_row Y 1 (cp_row (cp_row (μ0 1) (μ0 2) 5384) (Y 1) 5384) := by
  intro d
  induction d using Nat.strongRecOn with
  | ind d ih =>
  intro j K σ μ x h tm hr hx hd hl hj hK
  obtain ⟨j, rfl⟩ : ∃ i, j = i + 1 := ⟨j - 1, by omega⟩
  obtain ⟨K, rfl⟩ : ∃ i, K = i + 1 := ⟨K - 1, by omega⟩
  have e4 := av_wt ⟨h, tm⟩ hr
  rw [tv_s, tvo_s, e4]
  by_cases c : u ≤ lk_av σ k
  · have cn : ¬ lk_av σ k < u := fun z => by have := lt_i.mp z; have := le_i.mp c; omega
    have cx : x ≤ 2000 := le_i.mpr (by rw [k2000]; omega)
    rw [if_pos c, if_pos c, itF_fix (pv_stay c), if_neg cn, if_pos cx]
    refine ⟨trivial, Int32.toInt_inj.mp ?_, μ, h.cr.m, rfl⟩
    show x.toInt = _
    rw [i_sub (by omega) (by omega)]; omega
  · have c3 : ¬ u.toInt ≤ (lk_av σ k).toInt := fun z => c (le_i.mpr z)
    have c' : lk_av σ k < u := lt_i.mpr (by omega)
    have c2 : ¬ (2000 : Int32) < x := fun z => by have := lt_i.mp z; rw [k2000] at this; omega
    have ez : ((2000 : Int32) - x).toInt = d := by rw [i_sub (by rw [k2000]; omega) (by rw [k2000]; omega), k2000]; omega
    rw [if_neg c, if_neg c, if_neg c2, if_neg c2]
    have S := step1 h tm (z := 2000 - x) (lat := lat) (by omega) (by omega) (by omega) hlat
    have idle : ((σ 0 7).toInt < lat.toInt → w_pn σ lat = pr_up σ 0 7 lat) → lk_av (itF (pvF lat k u) (K + 1) σ) k < u := fun q => by
      by_cases a : lat ≤ σ 0 7
      · rw [itF_fix (by unfold pvF; rw [if_pos a])]; exact c'
      · have a' : (σ 0 7).toInt < lat.toInt := by rw [le_i] at a; omega
        have e : pvF lat k u σ = pr_up σ 0 7 lat := by unfold pvF; rw [if_neg a, if_neg c, q a']
        rw [itF_s, e, itF_fix (by unfold pvF; rw [pr_upe, if_pos (le_i.mpr (Int.le_refl _))]), av_time]
        exact c'
    rcases S with ⟨s1, s2, s3, s4, s5, s6, s7, s8, s9, s10⟩ | ⟨_, s2, s3, s4⟩
    · have s4' : (x + m_po_r μ (2000 - x)).toInt = x.toInt + ((m_ne_r μ).toInt - (σ 0 7).toInt - 1) := by rw [i_add (by omega) (by omega), s4]
      have xe : (x + m_po_r μ (2000 - x) + Int32.ofInt 1).toInt = x.toInt + ((m_ne_r μ).toInt - (σ 0 7).toInt) := by
        rw [i_add (by rw [s4', o1_i]; omega) (by rw [s4', o1_i]; omega), s4', o1_i]; omega
      have R := ih (d - ((m_ne_r μ).toInt - (σ 0 7).toInt).toNat) (by omega) j K (w_pn σ lat) (m_ts (m_po μ (2000 - x))) (x + m_po_r μ (2000 - x) + Int32.ofInt 1) s5 s7 (by rw [pn_lkn (wI_nr4 h.cr.w)]; exact hr) (by omega) (by omega) (by rw [s8]; omega) (by omega) (by omega)
      have e : pvF lat k u σ = w_pn σ lat := by unfold pvF; rw [if_neg (fun z => by have := le_i.mp z; omega), if_neg c]
      rw [itF_s, e]
      exact ⟨⟨s6, R.1⟩, R.2⟩
    · have xe : (x + (2000 - x) + Int32.ofInt 1).toInt = 2001 := by
        have a : (x + (2000 - x)).toInt = 2000 := by rw [i_add (by omega) (by omega)]; omega
        rw [i_add (by rw [a, o1_i]; omega) (by rw [a, o1_i]; omega), a, o1_i]; omega
      obtain ⟨j, rfl⟩ : ∃ i, j = i + 1 := ⟨j - 1, by omega⟩
      have mts : mI (m_po μ (2000 - x)) := by rw [po_eq]; exact mI.upn h.cr.m rfl
      rw [s2]
      have E := tv_end (μ0 := μ0) (μ := m_ts (m_po μ (2000 - x))) (k := k) (u := u) (j := j) xe
      rw [if_pos (idle s4)]
      exact ⟨⟨s3, E.1⟩, E.2.1, m_ts (m_po μ (2000 - x)), mI_m_ts mts s3, E.2.2⟩
theorem eq_ticksUntilAvailable {σ τ μ : pr_I} (h : WX τ μ) (hI : wI σ) {k : Nat} {u : Int32} (hk : k < lkn τ) : fx_ticksUntilAvailable_r σ τ k u = mf_ticksUntilAvailable_r μ k u ∧ mf_ticksUntilAvailable_ok48 μ k u (sl 2002) (pr_row (pr_up μ 0 6 (0 : Int32)) 2 (cp_row (μ 1) (μ 2) 5384)) (0 : Int32) ∧ WX τ (mf_ticksUntilAvailable μ k u) ∧ wI (fx_ticksUntilAvailable σ τ k u) := by
  have A := h.aside hI
  have t0 := A.1.1.ti.1
  have t1 := A.2.2
  have el : ((wcp σ τ) 0 7 + 2000).toInt = ((wcp σ τ) 0 7).toInt + 2000 := by rw [i_add (by rw [k2000]; omega) (by rw [k2000]; omega), k2000]
  obtain ⟨G1, G2, Y, G3, G4⟩ := tv_go μ (k := k) (u := u) (lat := (wcp σ τ) 0 7 + 2000) (base := (wcp σ τ) 0 7) el.symm t0 (by omega) 2000 (sl 2002) (sl 1000000) (wcp σ τ) _ 0 A.1.1 A.1.2 (by rw [(w_cp_lv (σ := σ) h.1.1.cr.w).nl]; exact hk) (by decide) (by decide) (by omega) (by rw [sl_eq]; omega) (by rw [sl_eq]; omega)
  refine ⟨?_, G1, ?_, wI_w_pv A.1.1.cr.w⟩
  · refine Eq.trans ?_ G2.symm
    unfold fx_ticksUntilAvailable_r w_pv_r
    rw [show w_cp σ τ (lkn τ) (tkn τ) (rqn τ) = wcp σ τ from rfl, pv_itF]
  · unfold mf_ticksUntilAvailable
    rw [G4]; exact h.back G3
