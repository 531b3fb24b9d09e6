theorem mI_m_exp {σ : pr_I} {t : Nat} (ht : t < 500) (hI : mI σ) : mI (m_exp σ t) := by
  unfold m_exp
  exact mI_m_gb ht (mI.upn hI ((mW_tick ht (by decide)).trans rfl))
theorem mI_m_end_it2 {σ : pr_I} {r : Nat} (hI : mI σ) : ∀ k, k ≤ 500 → mI (m_end_it2 σ r k)
  | 0, _ => hI
  | k + 1, hk => by
    have ih := mI_m_end_it2 (r := r) hI k (by omega)
    unfold m_end_it2
    exact I_ite (P := mI) (I_ite (P := mI) ih (mI.upn ih ((mW_tick (by omega) (by decide)).trans rfl))) ih
theorem mI_m_end {σ : pr_I} {r : Nat} (hr : r < 40) (hI : mI σ) : mI (m_end σ r) := by
  unfold m_end
  exact mI.upn (mI_m_end_it2 hI (mtn σ) (mI_n5 hI)) ((mW_req hr (by decide)).trans rfl)
theorem mI_m_tr {σ : pr_I} {r : Nat} (hr : r < 40) (hat : ∀ k, (m_tr_it0 σ r k) 1 (264 + 28 * r + 6) = σ 1 0 → (m_tr_it0 σ r k) 1 (264 + 28 * r + 4) = (7 : Int32) → m_at_ok (m_tr_it0 σ r k) r) (hfw : ∀ k, (m_tr_it0 σ r k) 1 (264 + 28 * r + 6) = σ 1 0 → (m_tr_it0 σ r k) 1 (264 + 28 * r + 4) = 0 → ¬ (m_tr_it0 σ r k) 1 (264 + 28 * r + 14) = (m_tr_it0 σ r k) 1 (264 + 28 * r + 13) → vp_in ((m_tr_it0 σ r k) 1 (264 + 28 * r + 14)) 11) (hbk : ∀ k, (m_tr_it0 σ r k) 1 (264 + 28 * r + 6) = σ 1 0 → ¬ (m_tr_it0 σ r k) 1 (264 + 28 * r + 4) = (7 : Int32) → ¬ (m_tr_it0 σ r k) 1 (264 + 28 * r + 4) = 0 → vp_in (m_tof_r (m_tr_it0 σ r k) r ((m_tr_it0 σ r k) 1 (264 + 28 * r + (15 + (((m_tr_it0 σ r k) 1 (264 + 28 * r + 14)).toNatClampNeg - 1))))) 500) (hI : mI σ) : mI (m_tr σ r) := mI_m_tr_it0 hr hI hat hfw hbk (sl 5)
