/-! WHAT IS FORESEEN: till a request is active -/
noncomputable def paF (lat : Int32) (r : Nat) (X : pr_I) : pr_I := if lat ≤ X 0 7 then X else (if rq_way_r X r = 0 then X else w_pn X lat)
theorem pa_itF {σ : pr_I} {r : Nat} : ∀ k, w_pa_it14 σ r k = itF (paF (σ 0 7 + 2000) r) k σ
  | 0 => rfl
  | k + 1 => by rw [w_pa_it14, pa_itF k]; rfl
theorem way_0 {X : pr_I} {r : Nat} : rq_way_r X r = 0 ↔ ¬ (X 23 r = 0 ∨ X 23 r = 1 ∨ X 23 r = 7) := by
  unfold rq_way_r
  by_cases a : X 23 r = 0
  · rw [if_pos a]; exact ⟨fun z => absurd z (by decide), fun z => absurd (Or.inl a) z⟩
  · by_cases b : X 23 r = 1
    · rw [if_neg a, if_pos b]; exact ⟨fun z => absurd z (by decide), fun z => absurd (Or.inr (Or.inl b)) z⟩
    · by_cases c : X 23 r = 7
      · rw [if_neg a, if_neg b, if_pos c]; exact ⟨fun z => absurd z (by decide), fun z => absurd (Or.inr (Or.inr c)) z⟩
      · rw [if_neg a, if_neg b, if_neg c]
        refine ⟨fun _ z => ?_, fun _ => rfl⟩
        rcases z with z | z | z
        · exact a z
        · exact b z
        · exact c z
theorem pa_stay {lat : Int32} {r : Nat} {X : pr_I} (w : rq_way_r X r = 0) : paF lat r X = X := by
  unfold paF
  by_cases a : lat ≤ X 0 7
  · rw [if_pos a]
  · rw [if_neg a, if_pos w]
theorem ua_s {μ0 μ : pr_I} {r j : Nat} {x : Int32} : m_ua_fl2 μ0 r (j + 1) μ x = (if (μ 1 (264 + 28 * r + 4)) = (2 : Int32) then (μ, (if (μ 1 (264 + 28 * r + 4)) = (2 : Int32) then (if x ≤ (2000 : Int32) then x else ((-1) : Int32)) else ((-1) : Int32))) else (if (2000 : Int32) < x then (μ, (if (μ 1 (264 + 28 * r + 4)) = (2 : Int32) then (if x ≤ (2000 : Int32) then x else ((-1) : Int32)) else ((-1) : Int32))) else (if (m_ne_r μ) = ((-1) : Int32) then (μ, (if (μ 1 (264 + 28 * r + 4)) = (2 : Int32) then (if x ≤ (2000 : Int32) then x else ((-1) : Int32)) else ((-1) : Int32))) else (m_ua_fl2 μ0 r j (m_ts (m_po μ ((2000 : Int32) - x))) ((x + (m_po_r μ ((2000 : Int32) - x))) + Int32.ofInt (1)))))) := rfl
theorem uao_s {μ0 μ : pr_I} {r j : Nat} {x : Int32} : m_ua_ok2 μ0 r (j + 1) μ x = (if (μ 1 (264 + 28 * r + 4)) = (2 : Int32) then True else (if (2000 : Int32) < x then True else (if (m_ne_r μ) = ((-1) : Int32) then True else ((m_ts_ok (m_po μ ((2000 : Int32) - x))) ∧ (m_ua_ok2 μ0 r j (m_ts (m_po μ ((2000 : Int32) - x))) ((x + (m_po_r μ ((2000 : Int32) - x))) + Int32.ofInt (1))))))) := rfl
theorem k2000 : (2000 : Int32).toInt = 2000 := rfl
theorem o1_i : (Int32.ofInt 1).toInt = 1 := by decide
/-- behind the last tick -/
theorem ua_end {μ0 μ : pr_I} {r j : Nat} {x : Int32} (hx : x.toInt = 2001) : m_ua_ok2 μ0 r (j + 1) μ x ∧ (m_ua_fl2 μ0 r (j + 1) μ x).2 = -1 := by
  rw [ua_s, uao_s]
  have c1 : ¬ x ≤ 2000 := fun z => by have := le_i.mp z; rw [k2000] at this; omega
  have c2 : (2000 : Int32) < x := lt_i.mpr (by rw [k2000]; omega)
  by_cases c : μ 1 (264 + 28 * r + 4) = 2
  · rw [if_pos c, if_pos c, if_pos c, if_neg c1]; exact ⟨trivial, rfl⟩
  · rw [if_neg c, if_neg c, if_pos c2, if_pos c2, if_neg c]; exact ⟨trivial, rfl⟩
theorem ua_go (μ0 : pr_I) {r : Nat} {lat base : Int32} (hb : base.toInt + 2000 = lat.toInt) (h0 : 0 ≤ base.toInt) (hlat : lat.toInt ≤ 1090000) : ∀ d : Nat, ∀ (j K : Nat) (σ μ : pr_I) (x : Int32), Wd σ μ → Tm σ → r < rqn σ → 0 ≤ x.toInt → x.toInt + (d : Int) = 2000 → (σ 0 7).toInt + (d : Int) = lat.toInt → d + 2 ≤ j → d + 1 ≤ K →
    m_ua_ok2 μ0 r j μ x ∧ (m_ua_fl2 μ0 r j μ x).2 = (if (itF (paF lat r) K σ) 23 r = 2 then (itF (paF lat r) K σ) 0 7 - base else -1) := by
  intro d
  induction d using Nat.strongRecOn with
  | ind d ih =>
  intro j K σ μ x h tm hr hx hd hl hj hK
  obtain ⟨j, rfl⟩ : ∃ i, j = i + 1 := ⟨j - 1, by omega⟩
  obtain ⟨K, rfl⟩ : ∃ i, K = i + 1 := ⟨K - 1, by omega⟩
  have e4 : μ 1 (264 + 28 * r + 4) = σ 23 r := (h.cr.req hr (c := 4) (by decide)).symm
  have fixW : rq_way_r σ r = 0 → itF (paF lat r) (K + 1) σ = σ := fun w => itF_fix (pa_stay w) _
  rw [ua_s, uao_s, e4]
  by_cases c : σ 23 r = 2
  · have w : rq_way_r σ r = 0 := way_0.mpr (by rw [c]; decide)
    rw [if_pos c, if_pos c, if_pos c, fixW w, if_pos c, if_pos (le_i.mpr (by rw [k2000]; omega))]
    refine ⟨trivial, Int32.toInt_inj.mp ?_⟩
    show x.toInt = _
    rw [i_sub (by omega) (by omega)]; omega
  · have c2 : ¬ (2000 : Int32) < x := fun z => by have := lt_i.mp z; rw [k2000] at this; omega
    have ez : ((2000 : Int32) - x).toInt = d := by rw [i_sub (by rw [k2000]; omega) (by rw [k2000]; omega), k2000]; omega
    rw [if_neg c, if_neg c, if_neg c2, if_neg c2, if_neg c]
    have S := step1 h tm (z := 2000 - x) (lat := lat) (by omega) (by omega) (by omega) hlat
    -- where nothing happens the class ends without
    have idle : ((σ 0 7).toInt < lat.toInt → w_pn σ lat = pr_up σ 0 7 lat) → ¬ (itF (paF lat r) (K + 1) σ) 23 r = 2 := fun q => by
      by_cases a : lat ≤ σ 0 7
      · rw [itF_fix (by unfold paF; rw [if_pos a])]; exact c
      · by_cases w : rq_way_r σ r = 0
        · rw [fixW w]; exact c
        · have a' : (σ 0 7).toInt < lat.toInt := by rw [le_i] at a; omega
          have e : paF lat r σ = pr_up σ 0 7 lat := by unfold paF; rw [if_neg a, if_neg w, q a']
          rw [itF_s, e, itF_fix (by unfold paF; rw [pr_upe, if_pos (le_i.mpr (Int.le_refl _))]), pr_upv (by decide)]
          exact c
    by_cases n1 : m_ne_r μ = -1
    · rw [if_pos n1, if_pos n1]
      rcases S with ⟨s1, _⟩ | ⟨_, _, _, s4⟩
      · exact absurd n1 s1
      · rw [if_neg (idle s4)]; exact ⟨trivial, rfl⟩
    · rw [if_neg n1, if_neg n1]
      rcases S with ⟨s1, s2, s3, s4, s5, s6, s7, s8, s9, s10⟩ | ⟨_, s2, s3, s4⟩
      · have s4' : (x + m_po_r μ (2000 - x)).toInt = x.toInt + ((m_ne_r μ).toInt - (σ 0 7).toInt - 1) := by rw [i_add (by omega) (by omega), s4]
        have xe : (x + m_po_r μ (2000 - x) + Int32.ofInt 1).toInt = x.toInt + ((m_ne_r μ).toInt - (σ 0 7).toInt) := by
          rw [i_add (by rw [s4', o1_i]; omega) (by rw [s4', o1_i]; omega), s4', o1_i]; omega
        have R := ih (d - ((m_ne_r μ).toInt - (σ 0 7).toInt).toNat) (by omega) j K (w_pn σ lat) (m_ts (m_po μ (2000 - x))) (x + m_po_r μ (2000 - x) + Int32.ofInt 1) s5 s7 (by omega) (by omega) (by omega) (by rw [s8]; omega) (by omega) (by omega)
        refine ⟨⟨s6, R.1⟩, R.2.trans ?_⟩
        by_cases w : rq_way_r σ r = 0
        · have w' := way_0.mp w
          have d25 := (h.sr hr).2.2.1 w'
          have k23 := s10 r c d25
          have w2 : rq_way_r (w_pn σ lat) r = 0 := way_0.mpr (by rw [k23]; exact w')
          rw [itF_fix (pa_stay w2), k23, if_neg c, fixW w, if_neg c]
        · have e : paF lat r σ = w_pn σ lat := by unfold paF; rw [if_neg (fun z => by have := le_i.mp z; omega), if_neg w]
          rw [itF_s, e]
      · have xe : (x + (2000 - x) + Int32.ofInt 1).toInt = 2001 := by
          have a : (x + (2000 - x)).toInt = 2000 := by rw [i_add (by omega) (by omega)]; omega
          rw [i_add (by rw [a, o1_i]; omega) (by rw [a, o1_i]; omega), a, o1_i]; omega
        obtain ⟨j, rfl⟩ : ∃ i, j = i + 1 := ⟨j - 1, by omega⟩
        rw [s2]
        have E := ua_end (μ0 := μ0) (μ := m_ts (m_po μ (2000 - x))) (r := r) (j := j) xe
        rw [if_neg (idle s4)]
        exact ⟨⟨s3, E.1⟩, E.2⟩
theorem ua_eq {σ μ : pr_I} (h : WT σ μ) (ht : (σ 0 7).toInt ≤ 1000000) {r : Nat} (hr : r < rqn σ) : m_ua_ok μ r ∧ m_ua_r μ r = w_pa_r σ r := by
  have t0 := h.1.ti.1
  have el : (σ 0 7 + 2000).toInt = (σ 0 7).toInt + 2000 := by rw [i_add (by rw [k2000]; omega) (by rw [k2000]; omega), k2000]
  have G := ua_go μ (r := r) (lat := σ 0 7 + 2000) (base := σ 0 7) el.symm t0 (by omega) 2000 (sl 2002) (sl 1000000) σ μ 0 h.1 h.2 hr (by decide) (by decide) (by omega) (by rw [sl_eq]; omega) (by rw [sl_eq]; omega)
  refine ⟨G.1, G.2.trans ?_⟩
  unfold w_pa_r
  rw [pa_itF]
/-! the reference's aside -/
noncomputable def aws (X : pr_I) : pr_I := pr_row X 2 (cp_row (X 1) (X 2) 5384)
noncomputable def bck (X Y : pr_I) : pr_I := pr_row Y 1 (cp_row (cp_row (X 1) (X 2) 5384) (Y 1) 5384)
theorem aws_1 {X : pr_I} : aws X 1 = X 1 := pr_row_ne (by decide)
theorem aws_mI {X : pr_I} (h : mI X) : mI (aws X) := h.cpA ⟨by decide, by decide⟩ (h.rwA ⟨by decide, by decide⟩) (h.rwA ⟨by decide, by decide⟩)
theorem bck_1 {X Y : pr_I} {j : Nat} (hj : j < 5384) : bck X Y 1 j = X 1 j := by
  unfold bck
  rw [pr_row_eq, cp_lt hj, cp_lt hj]
theorem bck_mI {X Y : pr_I} (h : mI X) (hY : mI Y) : mI (bck X Y) := hY.cpA ⟨by decide, by decide⟩ (fun j B q => by
  unfold cp_row
  split
  · exact h.rwA ⟨by decide, by decide⟩ j B q
  · exact h.rwA ⟨by decide, by decide⟩ j B q) (hY.rwA ⟨by decide, by decide⟩)
theorem WX.aws {σ μ : pr_I} (h : WX σ μ) : WX σ (aws μ) := ⟨h.1.any (aws_mI h.1.1.cr.m) aws_1, h.2⟩
theorem WX.mu {σ μ : pr_I} (h : WX σ μ) : WX σ (pr_up μ 0 6 (0 : Int32)) := ⟨h.1.mu, h.2⟩
theorem WX.bck {σ X Y : pr_I} (h : WX σ X) (hY : mI Y) : WX σ (bck X Y) := h.cells (bck_mI h.1.1.cr.m hY) (fun j hj => bck_1 hj)
/-- the face's copies are of that kind -/
theorem aw_eq {μ : pr_I} : pr_row (pr_up μ 0 6 (0 : Int32)) 2 (cp_row (μ 1) (μ 2) 5384) = aws (pr_up μ 0 6 (0 : Int32)) := by
  unfold aws
  rw [pr_up_ne (show (1 : Nat) ≠ 0 by decide), pr_up_ne (show (2 : Nat) ≠ 0 by decide)]
theorem bk_eq {μ Y : pr_I} : pr_row Y 1 (cp_row (cp_row (μ 1) (μ 2) 5384) (Y 1) 5384) = bck (pr_up μ 0 6 (0 : Int32)) Y := by
  unfold bck
  rw [pr_up_ne (show (1 : Nat) ≠ 0 by decide), pr_up_ne (show (2 : Nat) ≠ 0 by decide)]
theorem eq_ticksUntilActive {σ τ μ : pr_I} (h : WX τ μ) (hI : wI σ) {k : Nat} (hk : k < rqn τ) : fx_ticksUntilActive_r σ τ k = mf_ticksUntilActive_r μ k ∧ m_ua_ok (pr_row (pr_up μ 0 6 (0 : Int32)) 2 (cp_row (μ 1) (μ 2) 5384)) k ∧ WX τ (mf_ticksUntilActive μ k) ∧ wI (fx_ticksUntilActive σ τ k) := by
  have A := (h.mu.aws).cp hI
  have U := ua_eq A.1 A.2.2 (r := k) (by rw [(w_cp_lv (σ := σ) h.1.1.cr.w).nr]; exact hk)
  unfold mf_ticksUntilActive_r mf_ticksUntilActive
  rw [aw_eq, bk_eq]
  exact ⟨U.2.symm, U.1, h.mu.bck (mI_m_ua A.1.1.cr.m U.1), wI_w_pa A.1.1.cr.w⟩
/-! a request that is made for it -/
theorem mk_rqn {σ μ : pr_I} {s t u q : Int32} (h : Wd σ μ) (hr : rqn σ < 40) (hs : vp_in s (ndn σ)) (ht : vp_in t (ndn σ)) (hne : s ≠ t) (hu : 1 ≤ u.toInt ∧ u.toInt ≤ 1000) (hq : 1 ≤ q.toInt ∧ q.toInt ≤ 10000) : rqn (w_mk σ s t u q) = rqn σ + 1 ∧ (w_mk σ s t u q) 0 7 = σ 0 7 := by
  obtain ⟨A, nr, _⟩ := h.ask hr hs ht hne hu hq
  have c40 : nI (rqn σ) < nI 40 := (nI_ltI (by omega) (by decide)).mpr hr
  have op := Opr.tr A (r := rqn σ) (by omega)
  have k0 : rq_add σ (rqn σ) s t u q (σ 0 7) 0 = σ 0 := fr_rq_add (by decide)
  unfold w_mk
  rw [if_pos c40, rqn_c op.2.1, nr, op.1, k0]
  exact ⟨rfl, rfl⟩
theorem fn_eq {σ τ X : pr_I} (h : WX τ X) (hI : wI σ) {s t : Nat} {u : Int32} (hs : s < ndn τ) (ht : t < ndn τ) (hst : s ≠ t) (hu : 1 ≤ u.toInt ∧ u.toInt ≤ 1000) (hr : rqn τ < 40) : m_fn_ok X (nI s) (nI t) u ∧ m_fn_r X (nI s) (nI t) u = w_pa_r (w_mk (wcp σ τ) (nI s) (nI t) u 1) (rqn (wcp σ τ)) ∧ ¬ w_mk_r (wcp σ τ) (nI s) (nI t) u 1 = -2 ∧ WX τ (m_fn X (nI s) (nI t) u) ∧ wI (w_mk (wcp σ τ) (nI s) (nI t) u 1) := by
  have hnn : ndn τ ≤ 12 := Nat.le_of_lt_succ (vp_in_lt (h.1.1.cr.w 0 6 13 rfl))
  have h4 := wI_nr4 h.1.1.cr.w
  have lv := w_cp_lv (σ := σ) h.1.1.cr.w
  have A := (h.aws).cp hI
  have er : rqn (wcp σ τ) = rqn τ := lv.nr
  have en : ndn (wcp σ τ) = ndn τ := lv.nn
  have vs : vp_in (nI s) (ndn (wcp σ τ)) := by rw [en]; exact nI_vin hs (by omega)
  have vt : vp_in (nI t) (ndn (wcp σ τ)) := by rw [en]; exact nI_vin ht (by omega)
  have ne : nI s ≠ nI t := fun z => hst ((nI_eq (by omega) (by omega)).mp z)
  have q1 : 1 ≤ (1 : Int32).toInt ∧ (1 : Int32).toInt ≤ 10000 := by decide
  have M := A.1.1.mk (by rw [er]; exact hr) vs vt ne hu q1
  have T := Tm.mk A.1.1 A.1.2 (by rw [er]; exact hr) vs vt ne hu q1
  obtain ⟨n1, n2⟩ := mk_rqn A.1.1 (by rw [er]; exact hr) vs vt ne hu q1
  have U := ua_eq ⟨M.1, T⟩ (by rw [n2]; exact A.2.2) (r := rqn (wcp σ τ)) (by rw [n1]; omega)
  have mr : mrn X = rqn (wcp σ τ) := h.1.1.cr.rn.trans er.symm
  have R : ¬ w_mk_r (wcp σ τ) (nI s) (nI t) u 1 = -2 := by
    unfold w_mk_r
    rw [if_pos ((nI_ltI (by omega) (by decide)).mpr (by omega))]
    intro z
    have := congrArg Int32.toInt z
    rw [nI_toI (by omega)] at this
    exact absurd this (by rw [show (-2 : Int32).toInt = -2 by decide]; omega)
  refine ⟨⟨M.2.1, ?_⟩, ?_, R, ?_, M.1.cr.w⟩
  · rw [mr]; exact U.1
  · unfold m_fn_r
    rw [mr]; exact U.2
  · unfold m_fn
    rw [mr]
    exact h.bck (mI_m_ua M.1.cr.m U.1)
theorem eq_ticksForNew {σ τ μ : pr_I} (h : WX τ μ) (hI : wI σ) {s t : Nat} {u : Int32} (hs : s < ndn τ) (ht : t < ndn τ) (hst : s ≠ t) (hu : 1 ≤ u.toInt ∧ u.toInt ≤ 1000) : fx_ticksForNew_r σ τ s t u = mf_ticksForNew_r μ s t u ∧ (mrn μ < 40 → m_fn_ok (pr_up μ 0 6 (0 : Int32)) (nI s) (nI t) u) ∧ WX τ (mf_ticksForNew μ s t u) ∧ wI (fx_ticksForNew σ τ s t u) := by
  have h4 := wI_nr4 h.1.1.cr.w
  have er : rqn (wcp σ τ) = rqn τ := (w_cp_lv (σ := σ) h.1.1.cr.w).nr
  have A := h.cp hI
  have hnn : ndn τ ≤ 12 := Nat.le_of_lt_succ (vp_in_lt (h.1.1.cr.w 0 6 13 rfl))
  unfold fx_ticksForNew_r fx_ticksForNew mf_ticksForNew_r mf_ticksForNew
  rw [h.1.1.cr.rn, show w_cp σ τ (lkn τ) (tkn τ) (rqn τ) = wcp σ τ from rfl]
  by_cases c : rqn τ < 40
  · have c1 : ¬ nI (rqn τ) = nI 40 := fun z => by have := (nI_eq (by omega) (by decide)).mp z; omega
    obtain ⟨F1, F2, F3, F4, F5⟩ := fn_eq h.mu hI hs ht hst hu c
    rw [if_neg c1, if_neg c1, if_neg F3, if_neg F3]
    exact ⟨F2.symm, fun _ => F1, F4, wI_w_pa F5⟩
  · have c1 : nI (rqn τ) = nI 40 := by rw [show rqn τ = 40 by omega]
    have R : w_mk_r (wcp σ τ) (nI s) (nI t) u 1 = -2 := by
      unfold w_mk_r
      rw [er, if_neg (fun z => c ((nI_ltI (by omega) (by decide)).mp z))]
    rw [if_pos c1, if_pos c1, if_pos R, if_pos R]
    exact ⟨rfl, fun z => absurd z c, h.mu, wI_w_mk (nI_vin (by omega) (by decide)) (nI_vin (by omega) (by decide)) A.1.1.cr.w⟩
theorem gw_b : ∀ j, j < 10 → 1 ≤ (gw (j + 1)).toInt ∧ (gw (j + 1)).toInt ≤ 1000 ∧ ¬ gw (j + 1) ≤ 0 := by decide
theorem gn_go {τ μ0 : pr_I} {s t : Nat} (hs : s < ndn τ) (ht : t < ndn τ) (hst : s ≠ t) (hr : rqn τ < 40) : ∀ (j : Nat) (σ X : pr_I), j ≤ 10 → WX τ X → wI σ → mf_greatestNew_ok30 μ0 s t (j + 1) X (gw j) ∧ (gn_rl τ s t j σ).2 = (mf_greatestNew_fl30 μ0 s t (j + 1) X (gw j)).2 ∧ WX τ (mf_greatestNew_fl30 μ0 s t (j + 1) X (gw j)).1 ∧ wI (gn_rl τ s t j σ).1
  | 0, σ, X, _, h, hI => by
    rw [mf_greatestNew_fl30, mf_greatestNew_ok30, if_pos (show gw 0 ≤ 0 by decide), if_pos (show gw 0 ≤ 0 by decide)]
    exact ⟨trivial, rfl, h, hI⟩
  | j + 1, σ, X, hj, h, hI => by
    obtain ⟨g1, g2, g3⟩ := gw_b j (by omega)
    have g4 := (gw_f j (by omega)).2
    obtain ⟨F1, F2, F3, F4, F5⟩ := fn_eq h hI hs ht hst ⟨g1, g2⟩ hr
    rw [mf_greatestNew_fl30, mf_greatestNew_ok30, if_neg g3, if_neg g3, gn_rl, if_neg F3, F2, g4]
    have R := gn_go (μ0 := μ0) hs ht hst hr j (w_pa (w_mk (wcp σ τ) (nI s) (nI t) (gw (j + 1)) 1) (rqn (wcp σ τ))) (m_fn X (nI s) (nI t) (gw (j + 1))) (by omega) F4 (wI_w_pa F5)
    by_cases c : w_pa_r (w_mk (wcp σ τ) (nI s) (nI t) (gw (j + 1)) 1) (rqn (wcp σ τ)) = -1
    · rw [if_pos c, if_pos c, if_pos c]
      exact ⟨⟨⟨by rw [h.1.1.cr.rn]; exact hr, F1⟩, R.1⟩, R.2⟩
    · rw [if_neg c, if_neg c, if_neg c]
      exact ⟨⟨⟨by rw [h.1.1.cr.rn]; exact hr, F1⟩, trivial⟩, rfl, F4, wI_w_pa F5⟩
theorem eq_greatestNew {σ τ μ : pr_I} (h : WX τ μ) (hI : wI σ) {s t : Nat} (hs : s < ndn τ) (ht : t < ndn τ) (hst : s ≠ t) : fx_greatestNew_r σ τ s t = mf_greatestNew_r μ s t ∧ (mrn μ < 40 → mf_greatestNew_ok30 μ s t (sl 11) (pr_up μ 0 6 (0 : Int32)) (512 : Int32)) ∧ WX τ (mf_greatestNew μ s t) ∧ wI (fx_greatestNew σ τ s t) := by
  have h4 := wI_nr4 h.1.1.cr.w
  have hnn : ndn τ ≤ 12 := Nat.le_of_lt_succ (vp_in_lt (h.1.1.cr.w 0 6 13 rfl))
  unfold fx_greatestNew_r fx_greatestNew mf_greatestNew_r mf_greatestNew
  rw [h.1.1.cr.rn, sl_eq 10, sl_eq 11]
  by_cases c : rqn τ < 40
  · have c1 : ¬ nI (rqn τ) = nI 40 := fun z => by have := (nI_eq (by omega) (by decide)).mp z; omega
    obtain ⟨G1, G2, G3, G4⟩ := gn_go (μ0 := μ) hs ht hst c 10 σ (pr_up μ 0 6 (0 : Int32)) (Nat.le_refl _) h.mu hI
    rw [if_neg c1, if_neg c1]
    exact ⟨G2, fun _ => G1, G3, G4⟩
  · have c1 : nI (rqn τ) = nI 40 := by rw [show rqn τ = 40 by omega]
    have er : rqn (wcp σ τ) = rqn τ := (w_cp_lv (σ := σ) h.1.1.cr.w).nr
    have A := h.cp hI
    have R : w_mk_r (wcp σ τ) (nI s) (nI t) (gw (9 + 1)) 1 = -2 := by
      unfold w_mk_r
      rw [er, if_neg (fun z => c ((nI_ltI (by omega) (by decide)).mp z))]
    rw [if_pos c1, if_pos c1, gn_rl, if_pos R]
    exact ⟨rfl, fun z => absurd z c, h.mu, wI_w_mk (nI_vin (by omega) (by decide)) (nI_vin (by omega) (by decide)) A.1.1.cr.w⟩
