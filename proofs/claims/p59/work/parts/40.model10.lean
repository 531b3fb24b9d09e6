theorem I_iteh {P : pr_I → Prop} {c : Prop} [Decidable c] {a b : pr_I} (ha : c → P a) (hb : ¬ c → P b) : P (if c then a else b) := by
  by_cases q : c
  · rw [if_pos q]; exact ha q
  · rw [if_neg q]; exact hb q
theorem vp_decx {x : Int32} {n : Nat} (hx : vp_in x (n + 1)) (hn : n < 2 ^ 30) (h0 : ¬ x = 0) : vp_in (x - 1) n := by
  obtain ⟨j, hj, rfl⟩ := vp_in_of hx (by omega)
  cases j with
  | zero => exact absurd rfl h0
  | succ j => rw [nI_pred]; exact nI_vin (by omega) (by omega)
theorem mI_upr {σ : pr_I} {r c B : Nat} {v : Int32} (hr : r < 40) (hc : c < 28) (e : mR c = some B) (hv : vp_in v B) (h : mI σ) : mI (pr_up σ 1 (264 + 28 * r + c) v) := mI.upv h ((mW_req hr hc).trans e) hv
theorem mI_m_go {σ : pr_I} {r : Nat} {z x : Int32} (hr : r < 40) (hz : vp_in z 12) (hI : mI σ) : mI (m_go σ r z x) := by
  unfold m_go
  exact mI.upn (mI_upr hr (by decide) rfl hz hI) ((mW_req hr (by decide)).trans rfl)
theorem mI_m_at_it62 {σ : pr_I} {r : Nat} (hr : r < 40) (hI : mI σ) (hlen : vp_in ((m_fi σ (σ 1 (264 + 28 * r + 0)) (σ 1 (264 + 28 * r + 1)) ((m_up_r σ (mln σ)) &&& ((σ 1 (264 + 28 * r + 9)) ^^^ ((-1) : Int32)))) 0 17) 12) : ∀ k, k ≤ 11 → mI (m_at_it62 σ r k)
  | 0, _ => mI_upr hr (by decide) rfl hlen (mI_m_fi hI (mI_req hI (k := r) (c := 0) hr (by decide) rfl))
  | k + 1, h => mI.upv (mI_m_at_it62 hr hI hlen k (by omega)) ((mW_req hr (by omega)).trans (mR_path (by omega))) (mI_m_fi hI (mI_req hI (k := r) (c := 0) hr (by decide) rfl) 10 k 24 rfl)
theorem mI_m_at {σ : pr_I} {r : Nat} (hr : r < 40) (hlen : vp_in ((m_fi σ (σ 1 (264 + 28 * r + 0)) (σ 1 (264 + 28 * r + 1)) ((m_up_r σ (mln σ)) &&& ((σ 1 (264 + 28 * r + 9)) ^^^ ((-1) : Int32)))) 0 17) 12) (hI : mI σ) : mI (m_at σ r) := by
  have q : ∀ {c : Nat} {S : pr_I} {v : Int32}, c < 28 → mR c = none → mI S → mI (pr_up S 1 (264 + 28 * r + c) v) := fun hc e h => mI.upn h ((mW_req hr hc).trans e)
  have hl := vp_in_lt hlen
  unfold m_at
  exact I_ite (P := mI) (q (by decide) rfl (q (by decide) rfl (mI_m_fi hI (mI_req hI (k := r) (c := 0) hr (by decide) rfl)))) (q (by decide) rfl (mI_upr hr (by decide) rfl (nI_vin (k := 0) (n := 12) (by decide) (by decide)) (q (by decide) rfl (mI_m_at_it62 hr hI hlen _ (by omega)))))
theorem mI_m_bk {σ : pr_I} {r : Nat} (hr : r < 40) (hto : vp_in (m_tof_r σ r (σ 1 (264 + 28 * r + (15 + ((σ 1 (264 + 28 * r + 14)).toNatClampNeg - 1))))) 500) (hI : mI σ) : mI (m_bk σ r) := by
  have q : ∀ {c : Nat} {S : pr_I} {v : Int32}, c < 28 → mR c = none → mI S → mI (pr_up S 1 (264 + 28 * r + c) v) := fun hc e h => mI.upn h ((mW_req hr hc).trans e)
  have hp0 : vp_in (σ 1 (264 + 28 * r + 14)) 12 := mI_req hI hr (by decide) rfl
  have hp1 := vp_in_lt hp0
  have hx0 : vp_in (σ 1 (264 + 28 * r + (15 + ((σ 1 (264 + 28 * r + 14)).toNatClampNeg - 1)))) 24 := mI_req hI (k := r) (c := 15 + ((σ 1 (264 + 28 * r + 14)).toNatClampNeg - 1)) hr (by omega) (mR_path (by omega))
  unfold m_bk
  refine I_iteh (P := mI) (fun _ => q (by decide) rfl (q (by decide) rfl (q (by decide) rfl (q (by decide) rfl hI)))) (fun c => ?_)
  exact I_ite (P := mI) (mI_m_go hr (vp_in_mono (vp_decx (n := 11) hp0 (by decide) c) (by decide)) (mI.upn hI ((mW_tick (vp_in_lt hto) (by decide)).trans rfl))) (mI_m_fa hr hx0 hI)
theorem mI_m_fw {σ : pr_I} {r : Nat} (hr : r < 40) (hp : ¬ (σ 1 (264 + 28 * r + 14)) = σ 1 (264 + 28 * r + 13) → vp_in (σ 1 (264 + 28 * r + 14)) 11) (hI : mI σ) : mI (m_fw σ r) := by
  unfold m_fw
  refine I_iteh (P := mI) (fun _ => mI.upn hI ((mW_req hr (by decide)).trans rfl)) (fun c => ?_)
  have hp0 := hp c
  have hp1 := vp_in_lt hp0
  have hx0 : vp_in (σ 1 (264 + 28 * r + (15 + (σ 1 (264 + 28 * r + 14)).toNatClampNeg))) 24 := mI_req hI (k := r) (c := 15 + (σ 1 (264 + 28 * r + 14)).toNatClampNeg) hr (by omega) (mR_path (by omega))
  have hn5 := mI_n5 hI
  refine I_ite (P := mI) (mI_m_fa hr hx0 hI) (I_ite (P := mI) (mI_m_fa hr hx0 hI) (I_iteh (P := mI) (fun q => ?_) (fun _ => mI_m_fa hr hx0 hI)))
  have q5 : mtn σ < 500 := (nI_ltI (by omega) (by decide)).mp q
  exact mI_m_go hr (vp_inc hp0 (by decide)) (mI_m_is hr hx0 q5 hI)
