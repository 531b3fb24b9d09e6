/-! THE LAW'S STATE: an object, what lies in it; the calls that only look -/
abbrev hW (I : pr_I) (w : Nat) (σ : pr_I) : Prop := ws_put I w σ = I
abbrev hR (I : pr_I) (a n : Nat) (φ : pr_I) : Prop := rg_put I a n φ = I
theorem hW.mv {I I' : pr_I} {w : Nat} {σ : pr_I} (h : hW I w σ) (e : ∀ a, w ≤ a → a < w + 121 → I' a = I a) : hW I' w σ := by
  funext a
  by_cases c : w ≤ a ∧ a < w + 121
  · have q := congrFun h a
    unfold ws_put at q ⊢
    rw [if_pos c] at q ⊢
    rw [e a c.1 c.2]; exact q
  · unfold ws_put
    rw [if_neg c]
theorem hR.mv {I I' : pr_I} {w n : Nat} {σ : pr_I} (h : hR I w n σ) (e : ∀ a, w ≤ a → a < w + n → I' a = I a) : hR I' w n σ := by
  funext a
  by_cases c : w ≤ a ∧ a < w + n
  · have q := congrFun h a
    unfold rg_put at q ⊢
    rw [if_pos c] at q ⊢
    rw [e a c.1 c.2]; exact q
  · unfold rg_put
    rw [if_neg c]
def lMm (x : Nat) (I : pr_I) (σ τ φ ι : pr_I) : Prop := hW I (x + 1) σ ∧ hW I (x + 122) τ ∧ hR I (x + 244) 5 φ ∧ hR I (x + 249) 2 ι
section MMS
variable {x : Nat} {I : pr_I} {σ τ φ ι : pr_I}
theorem lMm.w (h : lMm x I σ τ φ ι) (σ' : pr_I) : lMm x (ws_put I (x + 1) σ') σ' τ φ ι :=
  ⟨ws_put_put, h.2.1.mv (fun a _ _ => ws_out (by omega)), h.2.2.1.mv (fun a _ _ => ws_out (by omega)), h.2.2.2.mv (fun a _ _ => ws_out (by omega))⟩
theorem lMm.v (h : lMm x I σ τ φ ι) (τ' : pr_I) : lMm x (ws_put I (x + 122) τ') σ τ' φ ι :=
  ⟨h.1.mv (fun a _ _ => ws_out (by omega)), ws_put_put, h.2.2.1.mv (fun a _ _ => ws_out (by omega)), h.2.2.2.mv (fun a _ _ => ws_out (by omega))⟩
theorem lMm.f (h : lMm x I σ τ φ ι) (φ' : pr_I) : lMm x (rg_put I (x + 244) 5 φ') σ τ φ' ι :=
  ⟨h.1.mv (fun a _ _ => rg_out (by omega)), h.2.1.mv (fun a _ _ => rg_out (by omega)), rg_put_put, h.2.2.2.mv (fun a _ _ => rg_out (by omega))⟩
theorem lMm.y (h : lMm x I σ τ φ ι) (ι' : pr_I) : lMm x (rg_put I (x + 249) 2 ι') σ τ φ ι' :=
  ⟨h.1.mv (fun a _ _ => rg_out (by omega)), h.2.1.mv (fun a _ _ => rg_out (by omega)), h.2.2.1.mv (fun a _ _ => rg_out (by omega)), rg_put_put⟩
theorem lMm.up {I' : pr_I} (h : lMm x I σ τ φ ι) (e : ∀ a, a < x + 251 → I' a = I a) : lMm x I' σ τ φ ι :=
  ⟨h.1.mv (fun a _ _ => e a (by omega)), h.2.1.mv (fun a _ _ => e a (by omega)), h.2.2.1.mv (fun a _ _ => e a (by omega)), h.2.2.2.mv (fun a _ _ => e a (by omega))⟩
end MMS
/-- the kinds and references that stay -/
def lSt (x : Nat) (T : pr_T) : Prop := pr_X7 T x (x + 1) (x + 122) (x + 243) (x + 244) (x + 249) ∧ pr_W T (x + 1) ∧ pr_W T (x + 122) ∧ T.2.1 (x + 243) = (25, 2) ∧ pr_Fl T (x + 244) ∧ pr_In T (x + 249) ∧ x + 251 ≤ T.1
theorem lSt.k {x : Nat} {T : pr_T} (h : lSt x T) : T.2.1 x = (7, 0) := h.1.1
section OBS
variable {g : pr_C} {l : Launch} {T : pr_T} {I : pr_I} {L : pr_L} {x : Nat} {σ τ φ : pr_I} {k c : Nat} {i : Int32}
theorem o_time (hl : l.stackTraces = false) (hS : lSt x T) (hm : hW I (x + 1) σ) (hI : wI σ) : pr_M g l 8 0 0 mX7_time [.ref x] T I L (pr_R (some (.int (σ 0 7))) T I L) pr_no := by
  have h := c_fx_time (g := g) (L := L) (I := I) hl hS.2.1 hS.1 hI
  rw [hm] at h
  exact h
theorem o_requestCount (hl : l.stackTraces = false) (hS : lSt x T) (hm : hW I (x + 1) σ) (hI : wI σ) : pr_M g l 8 0 0 mX7_requestCount [.ref x] T I L (pr_R (some (.int (nI (rqn σ)))) T I L) pr_no := by
  have h := c_fx_requestCount (g := g) (L := L) (I := I) hl hS.2.1 hS.1 hI
  rw [hm] at h
  exact h
theorem o_ticketCount (hl : l.stackTraces = false) (hS : lSt x T) (hm : hW I (x + 1) σ) (hI : wI σ) : pr_M g l 8 0 0 mX7_ticketCount [.ref x] T I L (pr_R (some (.int (nI (tkn σ)))) T I L) pr_no := by
  have h := c_fx_ticketCount (g := g) (L := L) (I := I) hl hS.2.1 hS.1 hI
  rw [hm] at h
  exact h
theorem o_revenue (hl : l.stackTraces = false) (hS : lSt x T) (hm : hW I (x + 1) σ) (hI : wI σ) : pr_M g l 8 0 0 mX7_revenue [.ref x] T I L (pr_R (some (.long (w_rev_r σ))) T I L) pr_no := by
  have h := c_fx_revenue (g := g) (L := L) (I := I) hl hS.2.1 hS.1 hI
  rw [hm] at h
  exact h
theorem o_nextEvent (hl : l.stackTraces = false) (hS : lSt x T) (hm : hW I (x + 1) σ) (hI : wI σ) : pr_M g l 8 0 0 mX7_nextEvent [.ref x] T I L (pr_R (some (.int (fx_nextEvent_r σ))) T I L) pr_no := by
  have h := c_fx_nextEvent (g := g) (L := L) (I := I) hl hS.2.1 hS.1 hI
  rw [hm] at h
  exact h
theorem o_requestValue (hl : l.stackTraces = false) (hS : lSt x T) (hm : hW I (x + 1) σ) (hI : wI σ) (h0 : k < rqn σ) (h1 : c ≤ 12) : pr_M g l 8 0 0 mX7_requestValue [.ref x, .int (nI k), .int (nI c)] T I L (pr_R (some (.int (rq_val σ k c))) T I L) pr_no := by
  have h := c_fx_requestValue (g := g) (L := L) (I := I) hl hS.2.1 hS.1 hI h0 h1
  rw [hm] at h
  exact h
theorem o_ticketValue (hl : l.stackTraces = false) (hS : lSt x T) (hm : hW I (x + 1) σ) (hI : wI σ) (h0 : k < tkn σ) (h1 : c ≤ 7) : pr_M g l 8 0 0 mX7_ticketValue [.ref x, .int (nI k), .int (nI c)] T I L (pr_R (some (.int (tk_val σ k c))) T I L) pr_no := by
  have h := c_fx_ticketValue (g := g) (L := L) (I := I) hl hS.2.1 hS.1 hI h0 h1
  rw [hm] at h
  exact h
theorem o_linkValue (hl : l.stackTraces = false) (hS : lSt x T) (hm : hW I (x + 1) σ) (hI : wI σ) (h0 : k < lkn σ) (h1 : c ≤ 8) : pr_M g l 8 0 0 mX7_linkValue [.ref x, .int (nI k), .int (nI c)] T I L (pr_R (some (.int (lk_val σ k c))) T I L) pr_no := by
  have h := c_fx_linkValue (g := g) (L := L) (I := I) hl hS.2.1 hS.1 hI h0 h1
  rw [hm] at h
  exact h
theorem o_pathLength (hl : l.stackTraces = false) (hS : lSt x T) (hm : hW I (x + 1) σ) (hI : wI σ) (h0 : k < rqn σ) : pr_M g l 8 0 0 mX7_pathLength [.ref x, .int (nI k)] T I L (pr_R (some (.int (σ 32 k))) T I L) pr_no := by
  have h := c_fx_pathLength (g := g) (L := L) (I := I) hl hS.2.1 hS.1 hI h0
  rw [hm] at h
  exact h
theorem o_placeOf (hl : l.stackTraces = false) (hS : lSt x T) (hm : hW I (x + 1) σ) (hI : wI σ) (h0 : k < rqn σ) : pr_M g l 8 0 0 mX7_placeOf [.ref x, .int (nI k)] T I L (pr_R (some (.int (fx_placeOf_r σ k))) T I L) pr_no := by
  have h := c_fx_placeOf (g := g) (L := L) (I := I) hl hS.2.1 hS.1 hI h0
  rw [hm] at h
  exact h
theorem o_inState (hl : l.stackTraces = false) (hS : lSt x T) (hm : hW I (x + 1) σ) (hI : wI σ) (h0 : c ≤ 7) : pr_M g l 8 0 0 mX7_inState [.ref x, .int (nI c)] T I L (pr_R (some (.int (fx_inState_r σ c))) T I L) pr_no := by
  have h := c_fx_inState (g := g) (L := L) (I := I) hl hS.2.1 hS.1 hI h0
  rw [hm] at h
  exact h
theorem o_ticketOn (hl : l.stackTraces = false) (hS : lSt x T) (hm : hW I (x + 1) σ) (hI : wI σ) (h0 : k < lkn σ) : pr_M g l 8 0 0 mX7_ticketOn [.ref x, .int (nI k), .int i] T I L (pr_R (some (.int (fx_ticketOn_r σ k i))) T I L) pr_no := by
  have h := c_fx_ticketOn (i := i) (g := g) (L := L) (I := I) hl hS.2.1 hS.1 hI h0
  rw [hm] at h
  exact h
theorem o_pathLink (hl : l.stackTraces = false) (hS : lSt x T) (hm : hW I (x + 1) σ) (hI : wI σ) (h0 : k < rqn σ) : pr_M g l 8 0 0 mX7_pathLink [.ref x, .int (nI k), .int i] T I L (pr_R (some (.int (fx_pathLink_r σ k i))) T I L) pr_no := by
  have h := c_fx_pathLink (i := i) (g := g) (L := L) (I := I) hl hS.2.1 hS.1 hI h0
  rw [hm] at h
  exact h
theorem o_isSafe (hl : l.stackTraces = false) (hS : lSt x T) (hm : hW I (x + 1) σ) (hI : wI σ) : pr_M g l 8 0 0 mX7_isSafe [.ref x] T I L (pr_R (some (.int (fx_isSafe_r σ))) T I L) pr_no := by
  have h := c_fx_isSafe (g := g) (L := L) (I := I) hl hS.2.1 hS.1 hI
  rw [hm] at h
  exact h
theorem o_widest (hl : l.stackTraces = false) (hS : lSt x T) (hm : hW I (x + 1) σ) (hI : wI σ) (h0 : k < ndn σ) (h1 : c < ndn σ) (h2 : k ≠ c) : pr_M g l 11 0 0 mX7_widest [.ref x, .int (nI k), .int (nI c)] T I L (pr_R (some (.int (fx_widest_r σ k c))) T I L) pr_no := by
  have h := c_fx_widest (g := g) (L := L) (I := I) hl hS.2.1 hS.1 hI h0 h1 h2
  rw [hm] at h
  exact h
theorem o_reachable (hl : l.stackTraces = false) (hS : lSt x T) (hm : hW I (x + 1) σ) (hI : wI σ) (h0 : k < ndn σ) (h1 : 0 ≤ i) (h2 : i ≤ 1000) : pr_M g l 10 0 0 mX7_reachable [.ref x, .int (nI k), .int i] T I L (pr_R (some (.int (fx_reachable_r σ k i))) T I L) pr_no := by
  have h := c_fx_reachable (g := g) (L := L) (I := I) hl hS.2.1 hS.1 hI h0 h1 h2
  rw [hm] at h
  exact h
theorem o_setCapacity (hl : l.stackTraces = false) (hS : lSt x T) (hm : hW I (x + 1) σ) (hI : wI σ) (h0 : k < lkn σ) (h1 : 0 ≤ i) (h2 : i ≤ 1000) : pr_M g l 8 0 0 mX7_setCapacity [.ref x, .int (nI k), .int i] T I L (pr_R (some (.int (fx_setCapacity_r σ k i))) T (ws_put I (x + 1) (fx_setCapacity σ k i)) L) pr_no := by
  have h := c_fx_setCapacity (g := g) (L := L) (I := I) hl hS.2.1 hS.1 hI h0 h1 h2
  rw [hm] at h
  exact h
theorem o_takeDown (hl : l.stackTraces = false) (hS : lSt x T) (hm : hW I (x + 1) σ) (hI : wI σ) (h0 : k < lkn σ) : pr_M g l 8 0 0 mX7_takeDown [.ref x, .int (nI k)] T I L (pr_R (some (.int (fx_takeDown_r σ k))) T (ws_put I (x + 1) (fx_takeDown σ k)) L) pr_no := by
  have h := c_fx_takeDown (g := g) (L := L) (I := I) hl hS.2.1 hS.1 hI h0
  rw [hm] at h
  exact h
theorem o_bringUp (hl : l.stackTraces = false) (hS : lSt x T) (hm : hW I (x + 1) σ) (hI : wI σ) (h0 : k < lkn σ) : pr_M g l 8 0 0 mX7_bringUp [.ref x, .int (nI k)] T I L (pr_R (some (.int (fx_bringUp_r σ k))) T (ws_put I (x + 1) (fx_bringUp σ k)) L) pr_no := by
  have h := c_fx_bringUp (g := g) (L := L) (I := I) hl hS.2.1 hS.1 hI h0
  rw [hm] at h
  exact h
theorem o_cancel (hl : l.stackTraces = false) (hS : lSt x T) (hm : hW I (x + 1) σ) (hI : wI σ) (h0 : k < rqn σ) : pr_M g l 8 0 0 mX7_cancel [.ref x, .int (nI k)] T I L (pr_R (some (.int (fx_cancel_r σ k))) T (ws_put I (x + 1) (fx_cancel σ k)) L) pr_no := by
  have h := c_fx_cancel (g := g) (L := L) (I := I) hl hS.2.1 hS.1 hI h0
  rw [hm] at h
  exact h
theorem o_extend (hl : l.stackTraces = false) (hS : lSt x T) (hm : hW I (x + 1) σ) (hI : wI σ) (h0 : k < rqn σ) : pr_M g l 8 0 0 mX7_extend [.ref x, .int (nI k)] T I L (pr_R (some (.int (fx_extend_r σ k))) T (ws_put I (x + 1) (fx_extend σ k)) L) pr_no := by
  have h := c_fx_extend (g := g) (L := L) (I := I) hl hS.2.1 hS.1 hI h0
  rw [hm] at h
  exact h
theorem o_advance (hl : l.stackTraces = false) (hS : lSt x T) (hm : hW I (x + 1) σ) (hI : wI σ) (h0 : 1 ≤ i) (h1 : i ≤ 1000) : pr_M g l 10 0 0 mX7_advance [.ref x, .int i] T I L (pr_R (some (.int (fx_advance_r σ i))) T (ws_put I (x + 1) (fx_advance σ i)) L) pr_no := by
  have h := c_fx_advance (g := g) (L := L) (I := I) hl hS.2.1 hS.1 hI h0 h1
  rw [hm] at h
  exact h
theorem o_cheapest (hl : l.stackTraces = false) (hS : lSt x T) (hm : hW I (x + 1) σ) (hI : wI σ) (h0 : k < ndn σ) (h1 : c < ndn σ) (h2 : k ≠ c) (h3 : 0 ≤ i) (h4 : i ≤ 1000) : pr_M g l 11 0 0 mX7_cheapest [.ref x, .int (nI k), .int (nI c), .int i] T I L (pr_R (some (.int (fx_cheapest_r σ k c i))) T (ws_put I (x + 1) (fx_cheapest σ k c i)) L) pr_no := by
  have h := c_fx_cheapest (g := g) (L := L) (I := I) hl hS.2.1 hS.1 hI h0 h1 h2 h3 h4
  rw [hm] at h
  exact h
theorem o_roundTrip (hl : l.stackTraces = false) (hS : lSt x T) (hm : hW I (x + 1) σ) (hI : wI σ) (h0 : k < ndn σ) (h1 : c < ndn σ) (h2 : k ≠ c) (h3 : 0 ≤ i) (h4 : i ≤ 1000) : pr_M g l 11 0 0 mX7_roundTrip [.ref x, .int (nI k), .int (nI c), .int i] T I L (pr_R (some (.int (fx_roundTrip_r σ k c i))) T (ws_put I (x + 1) (fx_roundTrip σ k c i)) L) pr_no := by
  have h := c_fx_roundTrip (g := g) (L := L) (I := I) hl hS.2.1 hS.1 hI h0 h1 h2 h3 h4
  rw [hm] at h
  exact h
theorem o_neededHold (hl : l.stackTraces = false) (hS : lSt x T) (hm : hW I (x + 1) σ) (hI : wI σ) (h0 : k < ndn σ) (h1 : c < ndn σ) (h2 : k ≠ c) (h3 : 0 ≤ i) (h4 : i ≤ 1000) : pr_M g l 11 0 0 mX7_neededHold [.ref x, .int (nI k), .int (nI c), .int i] T I L (pr_R (some (.int (fx_neededHold_r σ k c i))) T (ws_put I (x + 1) (fx_neededHold σ k c i)) L) pr_no := by
  have h := c_fx_neededHold (g := g) (L := L) (I := I) hl hS.2.1 hS.1 hI h0 h1 h2 h3 h4
  rw [hm] at h
  exact h
theorem o_request (hl : l.stackTraces = false) (hS : lSt x T) (hm : hW I (x + 1) σ) (hI : wI σ) {q : Int32} (h0 : k < ndn σ) (h1 : c < ndn σ) (h2 : k ≠ c) (h3 : 1 ≤ i) (h4 : i ≤ 1000) (h5 : 1 ≤ q) (h6 : q ≤ 10000) : pr_M g l 11 0 0 mX7_request [.ref x, .int (nI k), .int (nI c), .int i, .int q] T I L (pr_R (some (.int (fx_request_r σ k c i q))) T (ws_put I (x + 1) (fx_request σ k c i q)) L) pr_no := by
  have h := c_fx_request (g := g) (L := L) (I := I) hl hS.2.1 hS.1 hI h0 h1 h2 h3 h4 h5 h6
  rw [hm] at h
  exact h
theorem o_greatestFlow (hl : l.stackTraces = false) (hS : lSt x T) (hm : hW I (x + 1) σ) (hf : hR I (x + 244) 5 φ) (hI : wI σ) (hφ : fl_I φ) (h0 : k < ndn σ) (h1 : c < ndn σ) (h2 : k ≠ c) : pr_M g l 11 0 0 mX7_greatestFlow [.ref x, .int (nI k), .int (nI c)] T I L (pr_R (some (.int (fx_greatestFlow_r φ σ k c))) T (rg_put I (x + 244) 5 (fx_greatestFlow φ σ k c)) L) pr_no := by
  have h := c_fx_greatestFlow (g := g) (L := L) (I := I) hl hS.2.2.2.2.1 hS.1 hS.2.1 (by omega) hφ hI h0 h1 h2
  rw [hm, hf] at h
  exact h
theorem o_smallestCut (hl : l.stackTraces = false) (hS : lSt x T) (hm : hW I (x + 1) σ) (hf : hR I (x + 244) 5 φ) (hI : wI σ) (hφ : fl_I φ) (h0 : k < ndn σ) (h1 : c < ndn σ) (h2 : k ≠ c) : pr_M g l 11 0 0 mX7_smallestCut [.ref x, .int (nI k), .int (nI c)] T I L (pr_R (some (.int (fx_smallestCut_r φ σ k c))) T (rg_put I (x + 244) 5 (fx_smallestCut φ σ k c)) L) pr_no := by
  have h := c_fx_smallestCut (g := g) (L := L) (I := I) hl hS.2.2.2.2.1 hS.1 hS.2.1 (by omega) hφ hI h0 h1 h2
  rw [hm, hf] at h
  exact h
theorem o_disjointPaths (hl : l.stackTraces = false) (hS : lSt x T) (hm : hW I (x + 1) σ) (hf : hR I (x + 244) 5 φ) (hI : wI σ) (hφ : fl_I φ) (h0 : k < ndn σ) (h1 : c < ndn σ) (h2 : k ≠ c) (h3 : 0 ≤ i) (h4 : i ≤ 1000) : pr_M g l 11 0 0 mX7_disjointPaths [.ref x, .int (nI k), .int (nI c), .int i] T I L (pr_R (some (.int (fx_disjointPaths_r φ σ k c i))) T (rg_put I (x + 244) 5 (fx_disjointPaths φ σ k c i)) L) pr_no := by
  have h := c_fx_disjointPaths (g := g) (L := L) (I := I) hl hS.2.2.2.2.1 hS.1 hS.2.1 (by omega) hφ hI h0 h1 h2 h3 h4
  rw [hm, hf] at h
  exact h
theorem o_revenueAfter (hl : l.stackTraces = false) (hS : lSt x T) (hm : hW I (x + 1) σ) (hv : hW I (x + 122) τ) (hI : wI σ) (hτ : wI τ) (h0 : 0 ≤ i) (h1 : i ≤ 2000) : pr_M g l 11 0 0 mX7_revenueAfter [.ref x, .int i] T I L (pr_R (some (.long (fx_revenueAfter_r τ σ i))) T (ws_put I (x + 122) (fx_revenueAfter τ σ i)) (l_cp L (x + 1) (x + 122))) pr_no := by
  have h := c_fx_revenueAfter (g := g) (L := L) (I := I) hl hS.2.2.1 hS.1 hS.2.1 (by omega) hτ hI h0 h1
  rw [hm, hv] at h
  exact h
theorem o_stateAfter (hl : l.stackTraces = false) (hS : lSt x T) (hm : hW I (x + 1) σ) (hv : hW I (x + 122) τ) (hI : wI σ) (hτ : wI τ) (h0 : k < rqn σ) (h1 : 0 ≤ i) (h2 : i ≤ 2000) : pr_M g l 11 0 0 mX7_stateAfter [.ref x, .int (nI k), .int i] T I L (pr_R (some (.int (fx_stateAfter_r τ σ k i))) T (ws_put I (x + 122) (fx_stateAfter τ σ k i)) (l_cp L (x + 1) (x + 122))) pr_no := by
  have h := c_fx_stateAfter (g := g) (L := L) (I := I) hl hS.2.2.1 hS.1 hS.2.1 (by omega) hτ hI h0 h1 h2
  rw [hm, hv] at h
  exact h
theorem o_ticksUntilActive (hl : l.stackTraces = false) (hS : lSt x T) (hm : hW I (x + 1) σ) (hv : hW I (x + 122) τ) (hI : wI σ) (hτ : wI τ) (h0 : k < rqn σ) : pr_M g l 11 0 0 mX7_ticksUntilActive [.ref x, .int (nI k)] T I L (pr_R (some (.int (fx_ticksUntilActive_r τ σ k))) T (ws_put I (x + 122) (fx_ticksUntilActive τ σ k)) (l_cp L (x + 1) (x + 122))) pr_no := by
  have h := c_fx_ticksUntilActive (g := g) (L := L) (I := I) hl hS.2.2.1 hS.1 hS.2.1 (by omega) hτ hI h0
  rw [hm, hv] at h
  exact h
theorem o_ticksUntilQuiet (hl : l.stackTraces = false) (hS : lSt x T) (hm : hW I (x + 1) σ) (hv : hW I (x + 122) τ) (hI : wI σ) (hτ : wI τ) : pr_M g l 11 0 0 mX7_ticksUntilQuiet [.ref x] T I L (pr_R (some (.int (fx_ticksUntilQuiet_r τ σ))) T (ws_put I (x + 122) (fx_ticksUntilQuiet τ σ)) (l_cp L (x + 1) (x + 122))) pr_no := by
  have h := c_fx_ticksUntilQuiet (g := g) (L := L) (I := I) hl hS.2.2.1 hS.1 hS.2.1 (by omega) hτ hI
  rw [hm, hv] at h
  exact h
theorem o_activeWithout (hl : l.stackTraces = false) (hS : lSt x T) (hm : hW I (x + 1) σ) (hv : hW I (x + 122) τ) (hI : wI σ) (hτ : wI τ) (h0 : k < lkn σ) (h1 : 0 ≤ i) (h2 : i ≤ 2000) : pr_M g l 11 0 0 mX7_activeWithout [.ref x, .int (nI k), .int i] T I L (pr_R (some (.int (fx_activeWithout_r τ σ k i))) T (ws_put I (x + 122) (fx_activeWithout τ σ k i)) (l_cp L (x + 1) (x + 122))) pr_no := by
  have h := c_fx_activeWithout (g := g) (L := L) (I := I) hl hS.2.2.1 hS.1 hS.2.1 (by omega) hτ hI h0 h1 h2
  rw [hm, hv] at h
  exact h
theorem o_greatestNew (hl : l.stackTraces = false) (hS : lSt x T) (hm : hW I (x + 1) σ) (hv : hW I (x + 122) τ) (hI : wI σ) (hτ : wI τ) (h0 : k < ndn σ) (h1 : c < ndn σ) (h2 : k ≠ c) : pr_M g l 11 0 0 mX7_greatestNew [.ref x, .int (nI k), .int (nI c)] T I L (pr_R (some (.int (fx_greatestNew_r τ σ k c))) T (ws_put I (x + 122) (fx_greatestNew τ σ k c)) (l_cp L (x + 1) (x + 122))) pr_no := by
  have h := c_fx_greatestNew2 (g := g) (L := L) (I := I) hl hS.2.2.1 hS.1 hS.2.1 (by omega) hτ hI h0 h1 h2
  rw [hm, hv] at h
  exact h
end OBS
