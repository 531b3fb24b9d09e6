/-! WHAT IS FORESEEN: till nothing more happens -/
noncomputable def pqF (lat : Int32) (P : pr_I × Int32) : pr_I × Int32 := if P.2 = -1 then P else (if lat < P.2 then P else (w_pn P.1 lat, w_next_r (w_pn P.1 lat) (tkn (w_pn P.1 lat)) (rqn (w_pn P.1 lat))))
theorem pq_itF {σ : pr_I} : ∀ k, w_pq_it19 σ k = itF (pqF (σ 0 7 + 20000)) k (σ, w_next_r σ (tkn σ) (rqn σ))
  | 0 => rfl
  | k + 1 => by rw [w_pq_it19, pq_itF k]; rfl
theorem tq_s {μ0 μ : pr_I} {j : Nat} {x : Int32} : mf_ticksUntilQuiet_fl28 μ0 (j + 1) μ x = (if x = ((-1) : Int32) then ((pr_row μ 1 (cp_row (cp_row (μ0 1) (μ0 2) 5384) (μ 1) 5384)), (if x = ((-1) : Int32) then ((μ 1 0) - (μ0 1 0)) else ((-1) : Int32))) else (if (20000 : Int32) < (x - (μ0 1 0)) then ((pr_row μ 1 (cp_row (cp_row (μ0 1) (μ0 2) 5384) (μ 1) 5384)), (if x = ((-1) : Int32) then ((μ 1 0) - (μ0 1 0)) else ((-1) : Int32))) else (mf_ticksUntilQuiet_fl28 μ0 j (m_ts (pr_up μ 1 0 (x - (1 : Int32)))) (m_ne_r (m_ts (pr_up μ 1 0 (x - (1 : Int32)))))))) := rfl
theorem tqo_s {μ0 μ : pr_I} {j : Nat} {x : Int32} : mf_ticksUntilQuiet_ok28 μ0 (j + 1) μ x = (if x = ((-1) : Int32) then True else (if (20000 : Int32) < (x - (μ0 1 0)) then True else ((m_ts_ok (pr_up μ 1 0 (x - (1 : Int32)))) ∧ (mf_ticksUntilQuiet_ok28 μ0 j (m_ts (pr_up μ 1 0 (x - (1 : Int32)))) (m_ne_r (m_ts (pr_up μ 1 0 (x - (1 : Int32))))))))) := rfl
theorem k20000 : (20000 : Int32).toInt = 20000 := rfl
theorem next_wd {σ μ : pr_I} (h : Wd σ μ) (tm : Tm σ) : w_next_r σ (tkn σ) (rqn σ) = m_ne_r μ := by
  have n14 : ∀ t, t < tkn σ → ¬ σ 14 t = -1 := fun t ht z => by
    have := (tm.1 t ht).1; rw [z, m1_i] at this; omega
  unfold w_next_r m_ne_r
  rw [h.cr.rn]
  exact next_eq h n14 rfl (rqn σ) (Nat.le_refl _)
theorem tq_go (μ0 : pr_I) {lat base : Int32} (hb : base.toInt + 20000 = lat.toInt) (h0 : 0 ≤ base.toInt) (hlat : lat.toInt ≤ 1090000) (e0 : μ0 1 0 = base) : ∀ d : Nat, ∀ (j K : Nat) (σ μ : pr_I), Wd σ μ → Tm σ → base.toInt ≤ (σ 0 7).toInt → (σ 0 7).toInt + (d : Int) = lat.toInt → d + 1 ≤ j → d + 1 ≤ K →
    mf_ticksUntilQuiet_ok28 μ0 j μ (m_ne_r μ) ∧ (mf_ticksUntilQuiet_fl28 μ0 j μ (m_ne_r μ)).2 = (if (itF (pqF lat) K (σ, m_ne_r μ)).2 = -1 then (itF (pqF lat) K (σ, m_ne_r μ)).1 0 7 - base else -1) ∧ ∃ Y, mI Y ∧ (mf_ticksUntilQuiet_fl28 μ0 j μ (m_ne_r μ)).1 = pr_row Y 1 (cp_row (cp_row (μ0 1) (μ0 2) 5384) (Y 1) 5384) := by
  intro d
  induction d using Nat.strongRecOn with
  | ind d ih =>
  intro j K σ μ h tm hbn hl hj hK
  obtain ⟨j, rfl⟩ : ∃ i, j = i + 1 := ⟨j - 1, by omega⟩
  obtain ⟨K, rfl⟩ : ∃ i, K = i + 1 := ⟨K - 1, by omega⟩
  have t0 := h.ti.1
  have i1 : (1 : Int32).toInt = 1 := rfl
  have l1 : (lat + 1).toInt = lat.toInt + 1 := i_add (by omega) (by omega)
  obtain ⟨en, P⟩ := nt_p h tm (lat := lat + 1) (by omega)
  rw [tq_s, tqo_s, e0]
  by_cases c : m_ne_r μ = -1
  · rw [if_pos c, if_pos c, if_pos c, itF_fix (x := (σ, m_ne_r μ)) (by unfold pqF; exact if_pos c), if_pos c]
    refine ⟨trivial, ?_, μ, h.cr.m, rfl⟩
    show μ 1 0 - base = σ 0 7 - base
    rw [h.cr.now]
  · have lo : (σ 0 7).toInt < (m_ne_r μ).toInt := by
      rcases P with ⟨p1, _⟩ | ⟨_, p2, _⟩
      · have := p1.resolve_left c; omega
      · exact p2
    have hlt := (m_ne_r μ).toInt_lt
    have ex : (m_ne_r μ - base).toInt = (m_ne_r μ).toInt - base.toInt := i_sub (by omega) (by omega)
    have cc : (20000 : Int32) < m_ne_r μ - base ↔ lat < m_ne_r μ := by
      rw [lt_i, lt_i, ex, k20000]; omega
    by_cases c2 : lat < m_ne_r μ
    · rw [if_neg c, if_neg c, if_pos (cc.mpr c2), if_pos (cc.mpr c2), if_neg c, itF_fix (x := (σ, m_ne_r μ)) (by unfold pqF; exact (if_neg c).trans (if_pos c2)), if_neg c]
      exact ⟨trivial, rfl, μ, h.cr.m, rfl⟩
    · have c2' : ¬ lat.toInt < (m_ne_r μ).toInt := fun z => c2 (lt_i.mpr z)
      have eT : w_nt σ lat = m_ne_r μ := by
        unfold w_nt
        rw [en, if_neg c, if_pos (le_i.mpr (by omega))]
      have Tbb : Tb σ (m_ne_r μ) := by
        rcases P with ⟨p1, _⟩ | ⟨_, _, _, _, p5⟩
        · have := p1.resolve_left c; omega
        · exact p5
      have hm : pr_up (pr_up μ 1 0 (m_ne_r μ - 1)) 1 0 ((pr_up μ 1 0 (m_ne_r μ - 1)) 1 0 + 1) = pr_up μ 1 0 (m_ne_r μ) := by
        rw [pr_upe, pr_up_two, Int32.sub_add_cancel]
      have W := h.pn (T := m_ne_r μ) (by omega) (by omega) eT hm
      have M := Tm.pn h tm.1 Tbb (by omega) (by omega) eT hm
      have R := ih (d - ((m_ne_r μ).toInt - (σ 0 7).toInt).toNat) (by omega) j K (w_pn σ lat) (m_ts (pr_up μ 1 0 (m_ne_r μ - 1))) W.1 M.1 (by rw [M.2.1]; omega) (by rw [M.2.1]; omega) (by omega) (by omega)
      have nn : w_next_r (w_pn σ lat) (tkn (w_pn σ lat)) (rqn (w_pn σ lat)) = m_ne_r (m_ts (pr_up μ 1 0 (m_ne_r μ - 1))) := next_wd W.1 M.1
      have e : pqF lat (σ, m_ne_r μ) = (w_pn σ lat, m_ne_r (m_ts (pr_up μ 1 0 (m_ne_r μ - 1)))) := by
        unfold pqF
        rw [← nn]
        exact (if_neg c).trans (if_neg c2)
      rw [if_neg c, if_neg c, if_neg (fun z => c2 (cc.mp z)), if_neg (fun z => c2 (cc.mp z)), itF_s, e]
      exact ⟨⟨W.2, R.1⟩, R.2⟩
theorem eq_ticksUntilQuiet {σ τ μ : pr_I} (h : WX τ μ) (hI : wI σ) : fx_ticksUntilQuiet_r σ τ = mf_ticksUntilQuiet_r μ ∧ mf_ticksUntilQuiet_ok28 μ (sl 20001) (pr_row (pr_up μ 0 6 (0 : Int32)) 2 (cp_row (μ 1) (μ 2) 5384)) (m_ne_r (pr_row (pr_up μ 0 6 (0 : Int32)) 2 (cp_row (μ 1) (μ 2) 5384))) ∧ WX τ (mf_ticksUntilQuiet μ) ∧ wI (fx_ticksUntilQuiet σ τ) := by
  have A := h.aside hI
  have t0 := A.1.1.ti.1
  have t1 := A.2.2
  have e1 : μ 1 0 = (wcp σ τ) 0 7 := by rw [(w_cp_lv (σ := σ) h.1.1.cr.w).1.2.1]; exact h.1.1.cr.now.symm
  have el : ((wcp σ τ) 0 7 + 20000).toInt = ((wcp σ τ) 0 7).toInt + 20000 := by rw [i_add (by rw [k20000]; omega) (by rw [k20000]; omega), k20000]
  obtain ⟨G1, G2, Y, G3, G4⟩ := tq_go μ (lat := (wcp σ τ) 0 7 + 20000) (base := (wcp σ τ) 0 7) el.symm t0 (by omega) e1 20000 (sl 20001) (sl 1000000) (wcp σ τ) _ A.1.1 A.1.2 (Int.le_refl _) (by omega) (by rw [sl_eq]; omega) (by rw [sl_eq]; omega)
  refine ⟨?_, G1, ?_, wI_w_pq A.1.1.cr.w⟩
  · refine Eq.trans ?_ G2.symm
    have nn := next_wd A.1.1 A.1.2
    unfold fx_ticksUntilQuiet_r w_pq_r
    rw [show w_cp σ τ (lkn τ) (tkn τ) (rqn τ) = wcp σ τ from rfl, pq_itF, nn]
  · unfold mf_ticksUntilQuiet
    rw [G4]; exact h.back G3
