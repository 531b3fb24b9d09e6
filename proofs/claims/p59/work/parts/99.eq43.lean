/-! THE BOUNDS BEHIND EACH CALL -/
theorem tx_takeDown {σ μ : pr_I} (h : WT σ μ) (tx : Tx σ) {k : Nat} (hk : k < lkn σ) : Tx (fx_takeDown σ k) := by
  unfold fx_takeDown
  split
  · exact tx
  · exact Tx.close h.1 h.2 tx rfl hk (rqn σ) (Nat.le_refl _)
theorem tx_bringUp {σ : pr_I} (tx : Tx σ) {k : Nat} : Tx (fx_bringUp σ k) := by
  unfold fx_bringUp
  split
  · exact tx.cong (fun o ho => pr_up_ne (by simp only [List.mem_cons, List.not_mem_nil, or_false] at ho; omega))
  · exact tx
theorem tx_setSetting {σ : pr_I} (tx : Tx σ) {c : Nat} {z : Int32} : Tx (fx_setSetting σ c z) := by
  unfold fx_setSetting
  exact tx.cong (fun o ho => pr_up_ne (by simp only [List.mem_cons, List.not_mem_nil, or_false] at ho; omega))
theorem tx_setCapacity {σ : pr_I} (tx : Tx σ) {l : Nat} {z : Int32} : Tx (fx_setCapacity σ l z) := by
  unfold fx_setCapacity
  split
  · exact tx.cong (fun o ho => pr_up_ne (by simp only [List.mem_cons, List.not_mem_nil, or_false] at ho; omega))
  · exact tx
theorem tx_extend {σ : pr_I} (tx : Tx σ) {k : Nat} : Tx (fx_extend σ k) := by
  unfold fx_extend
  exact tx.cong (fun o ho => fr_tk_post (by simp only [List.mem_cons, List.not_mem_nil, or_false, forall_eq] at ho ⊢; omega))
theorem tx_advance {σ μ : pr_I} (h : WT σ μ) (tx : Tx σ) {z : Int32} (h0 : 0 ≤ z.toInt) (h1 : z.toInt ≤ 2000) (ht : (σ 0 7).toInt ≤ 1000000) : Tx (fx_advance σ z) := by
  have t0 := h.1.ti.1
  unfold fx_advance
  split
  · exact Tx.pass (by rw [i_add (by omega) (by omega)]; omega) _ σ μ h.1 h.2 tx
  · exact tx
theorem tx_request {σ μ : pr_I} (h : WT σ μ) (tx : Tx σ) {s t : Nat} {u q : Int32} (hs : s < ndn σ) (ht : t < ndn σ) (hne : s ≠ t) (hu : 1 ≤ u.toInt ∧ u.toInt ≤ 1000) (hq : 1 ≤ q.toInt ∧ q.toInt ≤ 10000) : Tx (fx_request σ s t u q) := by
  have hnn : ndn σ ≤ 12 := Nat.le_of_lt_succ (vp_in_lt (h.1.cr.w 0 6 13 rfl))
  unfold fx_request
  by_cases c : rqn σ < 40
  · exact Tx.mk h.1 tx c (nI_vin hs (by omega)) (nI_vin ht (by omega)) (fun z => hne ((nI_eq (by omega) (by omega)).mp z)) hu hq
  · have h4 := wI_nr4 h.1.cr.w
    unfold w_mk
    rw [if_neg (fun z => c ((nI_ltI (by omega) (by decide)).mp z))]
    exact tx
