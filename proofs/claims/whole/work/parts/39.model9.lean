theorem mI_m_fi {σ : pr_I} {s t u : Int32} (hI : mI σ) (hs : vp_in s 12) : mI (m_fi σ s t u) := by
  have h1 : mI (m_lp σ t u) := mI_89 hI (fun h => fr_m_lp h)
  have h2 : vp_in (0 : Int32) 13 := nI_vin (k := 0) (n := 13) (by decide) (by decide)
  unfold m_fi
  exact I_ite (P := mI) (h1.upv (B := 13) rfl h2) (fi_I hI hs (sl 12) (by have := sl_eq 12; omega)).1
