/-! ALL THAT THE LAW ASKS IS KEPT -/
theorem LM.of (g : pr_C) : LM g Inv := by
  refine ⟨fun ι1 τ σ ν t hI hx h0 h1 hτ => load_ok g t hI hx h0 h1 hτ (llk_1 g) (fun tx P h j hj => getD_of h hj), fun k σ μ σ' hk h s => h.step hk s, fun k σ μ h => ⟨h.1, ?_, ?_⟩, fun σ μ h => ⟨?_, ?_⟩, fun σ μ r h hr => IsR.of h.1 h.2.1 hr, fun σ μ l h hl => ?_, fun σ μ h => ?_, fun σ μ σ' h hx' => ?_⟩
  · have a : σ 0 6 = μ 1 6 := h.1.1.1.cr.rc.g (j := 6) (by decide)
    rw [← a]; exact h.2.2.1
  · have a : σ 1 8 = μ 1 7 := h.1.1.1.cr.rc.g (j := 7) (by decide)
    rw [← a]; exact h.2.2.2.1
  · exact all_eq (fun r hr => (IsR.of h.1 h.2.1 hr).1) (rqn σ) (Nat.le_refl _)
  · have h24 := wI_nl24 h.1.w
    have e : fx_isSafe_r σ = 1 := safe_eq (fun l hl => le_i.mpr (av_of h.1 h.2.1 hl).2.2.1) h24 (lkn σ + 1) 0 (by omega) (Nat.zero_le _)
    rw [e]; decide
  · refine IsL.of h.1 h.2.1 ?_
    have e : lkn σ = 9 := by unfold lkn; rw [h.2.2.2.1]; rfl
    omega
  · exact h.isF (by unfold lkn; rw [h.2.2.2.1]; rfl) (by unfold ndn; rw [h.2.2.1]; rfl) (Nat.mod_lt _ (by decide)) (Nat.mod_lt _ (by decide)) (fab g)
  · exact h.isP hx' (by unfold lkn; rw [h.2.2.2.1]; rfl) (by unfold ndn; rw [h.2.2.1]; rfl)
