/-! A CALL ON BOTH SIDES: those that refuse nothing -/
def LwB0 (g : pr_C) (l : Launch) (x : Nat) (M1 M2 : pr_MD) (as1 as2 : List Value) (R : Value → Prop) (T : pr_T) (I : pr_I) (L : pr_L) : Prop :=
  ∃ (d1 d2 : Nat) (r : Value) (I1 I2 : pr_I) (L1 : pr_L), d1 ≤ 12 ∧ d2 ≤ 12 ∧ R r ∧ pr_M g l d1 0 0 M1 as1 T I L (pr_R (some r) T I1 L1) pr_no ∧ pr_M g l d2 0 0 M2 as2 T I1 L1 (pr_R (some r) T I2 L1) pr_no ∧ LI x T I2 L1
def Rint (v : Value) : Prop := ∃ b : Int32, v = .int b
def Rlong (v : Value) : Prop := ∃ b : Int64, v = .long b
section BDZ
variable {g : pr_C} {l : Launch} {M1 M2 : pr_MD} {as1 as2 : List Value} {R : Value → Prop} {x n d1 d2 : Nat} {T : pr_T} {I I1 : pr_I} {L L1 : pr_L} {σ τ φ ι μ σ' τ' φ' ι' μ' : pr_I} {b b' : Value}
/-- nothing but the reference's own cell has changed -/
theorem LwB0.q (hS : Sta x T) (hM : Mm x I σ τ φ ι μ) (hD : Da σ τ φ ι μ n (L (x + 1 + 120))) (hSn : Sn x T I L μ) (hd1 : d1 ≤ 12) (hd2 : d2 ≤ 12)
    (hC : pr_M g l d1 0 0 M1 as1 T (ws_put I (x + 1) σ) L (pr_R (some b) T (ws_put I (x + 1) σ) L) pr_no)
    (hm : pr_M g l d2 0 0 M2 as2 T (rg_put I (x + 251) 16 μ) L (pr_R (some b') T (rg_put I (x + 251) 16 (pr_up μ 0 6 (0 : Int32))) L) pr_no) (hR : R b) (e : b = b') : LwB0 g l x M1 M2 as1 as2 R T I L := by
  subst e
  rw [hM.1] at hC
  rw [hM.2.2.2.2] at hm
  exact ⟨d1, d2, b, I, _, L, hd1, hd2, hR, hC, hm, LI.fin hS hD hSn hM (Nat.le_refl _) (fun _ _ _ => rfl) (fun _ _ _ => rfl) rfl hD.1.mu KPm.six hD.2.2.2.1 hD.2.2.2.2.1⟩
end BDZ
section S0
variable {g : pr_C} {l : Launch} {x : Nat} {T : pr_T} {I : pr_I} {L : pr_L}
theorem S_nodeCount (hl : l.stackTraces = false) (h : LI x T I L) : LwB0 g l x mX7_nodeCount mX8_nodeCount [.ref x] [.ref (x + 251)] Rint T I L := by
  obtain ⟨σ, τ, φ, ι, μ, n, hS, hM, hD, hSn⟩ := h
  exact LwB0.q hS hM hD hSn (by decide) (by decide) (c_fx_nodeCount hl hS.2.1 hS.1 hD.1.1.1.cr.w) (c_mf_nodeCount hl hS.2.2.2.2.2.2.1 hD.1.1.1.cr.m) ⟨_, rfl⟩ (congrArg Value.int (eq_nodeCount hD.1.1))
theorem S_linkCount (hl : l.stackTraces = false) (h : LI x T I L) : LwB0 g l x mX7_linkCount mX8_linkCount [.ref x] [.ref (x + 251)] Rint T I L := by
  obtain ⟨σ, τ, φ, ι, μ, n, hS, hM, hD, hSn⟩ := h
  exact LwB0.q hS hM hD hSn (by decide) (by decide) (c_fx_linkCount hl hS.2.1 hS.1 hD.1.1.1.cr.w) (c_mf_linkCount hl hS.2.2.2.2.2.2.1 hD.1.1.1.cr.m) ⟨_, rfl⟩ (congrArg Value.int (eq_linkCount hD.1.1))
theorem S_time (hl : l.stackTraces = false) (h : LI x T I L) : LwB0 g l x mX7_time mX8_time [.ref x] [.ref (x + 251)] Rint T I L := by
  obtain ⟨σ, τ, φ, ι, μ, n, hS, hM, hD, hSn⟩ := h
  exact LwB0.q hS hM hD hSn (by decide) (by decide) (c_fx_time hl hS.2.1 hS.1 hD.1.1.1.cr.w) (c_mf_time hl hS.2.2.2.2.2.2.1 hD.1.1.1.cr.m) ⟨_, rfl⟩ (congrArg Value.int (eq_time hD.1.1))
theorem S_requestCount (hl : l.stackTraces = false) (h : LI x T I L) : LwB0 g l x mX7_requestCount mX8_requestCount [.ref x] [.ref (x + 251)] Rint T I L := by
  obtain ⟨σ, τ, φ, ι, μ, n, hS, hM, hD, hSn⟩ := h
  exact LwB0.q hS hM hD hSn (by decide) (by decide) (c_fx_requestCount hl hS.2.1 hS.1 hD.1.1.1.cr.w) (c_mf_requestCount hl hS.2.2.2.2.2.2.1 hD.1.1.1.cr.m) ⟨_, rfl⟩ (congrArg Value.int (eq_requestCount hD.1.1))
theorem S_ticketCount (hl : l.stackTraces = false) (h : LI x T I L) : LwB0 g l x mX7_ticketCount mX8_ticketCount [.ref x] [.ref (x + 251)] Rint T I L := by
  obtain ⟨σ, τ, φ, ι, μ, n, hS, hM, hD, hSn⟩ := h
  exact LwB0.q hS hM hD hSn (by decide) (by decide) (c_fx_ticketCount hl hS.2.1 hS.1 hD.1.1.1.cr.w) (c_mf_ticketCount hl hS.2.2.2.2.2.2.1 hD.1.1.1.cr.m) ⟨_, rfl⟩ (congrArg Value.int (eq_ticketCount hD.1.1))
theorem S_revenue (hl : l.stackTraces = false) (h : LI x T I L) : LwB0 g l x mX7_revenue mX8_revenue [.ref x] [.ref (x + 251)] Rlong T I L := by
  obtain ⟨σ, τ, φ, ι, μ, n, hS, hM, hD, hSn⟩ := h
  exact LwB0.q hS hM hD hSn (by decide) (by decide) (c_fx_revenue hl hS.2.1 hS.1 hD.1.1.1.cr.w) (c_mf_revenue hl hS.2.2.2.2.2.2.1 hD.1.1.1.cr.m) ⟨_, rfl⟩ (congrArg Value.long (eq_revenue hD.1.1))
theorem S_refunds (hl : l.stackTraces = false) (h : LI x T I L) : LwB0 g l x mX7_refunds mX8_refunds [.ref x] [.ref (x + 251)] Rlong T I L := by
  obtain ⟨σ, τ, φ, ι, μ, n, hS, hM, hD, hSn⟩ := h
  exact LwB0.q hS hM hD hSn (by decide) (by decide) (c_fx_refunds hl hS.2.1 hS.1 hD.1.1.1.cr.w) (c_mf_refunds hl hS.2.2.2.2.2.2.1 hD.1.1.1.cr.m) ⟨_, rfl⟩ (congrArg Value.long (eq_refunds hD.1.1))
theorem S_nextExpiry (hl : l.stackTraces = false) (h : LI x T I L) : LwB0 g l x mX7_nextExpiry mX8_nextExpiry [.ref x] [.ref (x + 251)] Rint T I L := by
  obtain ⟨σ, τ, φ, ι, μ, n, hS, hM, hD, hSn⟩ := h
  exact LwB0.q hS hM hD hSn (by decide) (by decide) (c_fx_nextExpiry hl hS.2.1 hS.1 hD.1.1.1.cr.w) (c_mf_nextExpiry hl hS.2.2.2.2.2.2.1 hD.1.1.1.cr.m) ⟨_, rfl⟩ (congrArg Value.int (eq_nextExpiry hD.1.1))
theorem S_nextEvent (hl : l.stackTraces = false) (h : LI x T I L) : LwB0 g l x mX7_nextEvent mX8_nextEvent [.ref x] [.ref (x + 251)] Rint T I L := by
  obtain ⟨σ, τ, φ, ι, μ, n, hS, hM, hD, hSn⟩ := h
  exact LwB0.q hS hM hD hSn (by decide) (by decide) (c_fx_nextEvent hl hS.2.1 hS.1 hD.1.1.1.cr.w) (c_mf_nextEvent hl hS.2.2.2.2.2.2.1 hD.1.1.1.cr.m) ⟨_, rfl⟩ (congrArg Value.int (eq_nextEvent hD.1.1))
theorem S_isSafe (hl : l.stackTraces = false) (h : LI x T I L) : LwB0 g l x mX7_isSafe mX8_isSafe [.ref x] [.ref (x + 251)] Rint T I L := by
  obtain ⟨σ, τ, φ, ι, μ, n, hS, hM, hD, hSn⟩ := h
  exact LwB0.q hS hM hD hSn (by decide) (by decide) (c_fx_isSafe hl hS.2.1 hS.1 hD.1.1.1.cr.w) (c_mf_isSafe hl hS.2.2.2.2.2.2.1 hD.1.1.1.cr.m) ⟨_, rfl⟩ (congrArg Value.int (eq_isSafe hD.1.1 hD.1.2.1))
theorem S_ticksUntilQuiet (hl : l.stackTraces = false) (h : LI x T I L) : LwB0 g l x mX7_ticksUntilQuiet mX8_ticksUntilQuiet [.ref x] [.ref (x + 251)] Rint T I L := by
  obtain ⟨σ, τ, φ, ι, μ, n, hS, hM, hD, hSn⟩ := h
  obtain ⟨e1, e2, e3, e4⟩ := eq_ticksUntilQuiet hD.1 hD.2.2.2.1
  have hC := c_fx_ticksUntilQuiet (I := I) (L := L) (g := g) hl hS.2.2.1 hS.1 hS.2.1 (Or.inr (by omega)) hD.2.2.2.1 hD.1.1.1.cr.w
  have a1 : ws_put I (x + 1) σ = I := hM.1
  have a2 : ws_put I (x + 122) τ = I := hM.2.1
  rw [a1, a2, e1] at hC
  have M1 := hM.v (fx_ticksUntilQuiet τ σ)
  have hm := c_mf_ticksUntilQuiet (g := g) (I := ws_put I (x + 122) (fx_ticksUntilQuiet τ σ)) (L := l_cp L (x + 1) (x + 122)) hl hS.2.2.2.2.2.2.1 hD.1.1.1.cr.m e2
  have a3 : rg_put (ws_put I (x + 122) (fx_ticksUntilQuiet τ σ)) (x + 251) 16 μ = ws_put I (x + 122) (fx_ticksUntilQuiet τ σ) := M1.2.2.2.2
  rw [a3] at hm
  exact ⟨11, 11, _, _, _, _, by decide, by decide, ⟨_, rfl⟩, hC, hm, LI.fin hS hD hSn M1 (Nat.le_refl _) (fun a a1 _ => ws_out (by omega)) (fun a a1 _ => pr_rowl_ne (by omega)) (pr_rowl_ne (by omega)) e3 (kp_ticksUntilQuiet e2) e4 hD.2.2.2.2.1⟩
/-! texts -/
theorem S_loadError (hl : l.stackTraces = false) (h : LI x T I L) : LwB0 g l x mX7_loadError mX8_loadError [.ref x] [.ref (x + 251)] Rint T I L := by
  obtain ⟨σ, τ, φ, ι, μ, n, hS, hM, hD, hSn⟩ := h
  have hC := c_fx_loadError (g := g) (I := I) (L := L) (σ := ι) hl hS.2.2.2.2.2.1 hS.1
  have a1 : rg_put I (x + 249) 2 ι = I := hM.2.2.2.1
  rw [a1, (eq_loadError hD.2.2.1).1] at hC
  have hm := c_mf_loadError (g := g) (I := I) (L := L) (σ := μ) hl hS.2.2.2.2.2.2.1 hD.1.1.1.cr.m
  have a3 : rg_put I (x + 251) 16 μ = I := hM.2.2.2.2
  rw [a3] at hm
  exact ⟨3, 11, _, _, _, _, by decide, by decide, ⟨_, rfl⟩, hC, hm, LI.fin hS hD hSn hM (Nat.le_refl _) (fun _ _ _ => rfl) (fun _ _ _ => rfl) rfl hD.1.mu KPm.six hD.2.2.2.1 hD.2.2.2.2.1⟩
theorem S_nodeNamed (hl : l.stackTraces = false) (h : LI x T I L) : LwB0 g l x mX7_nodeNamed mX8_nodeNamed [.ref x] [.ref (x + 251)] Rint T I L := by
  obtain ⟨σ, τ, φ, ι, μ, n, hS, hM, hD, hSn⟩ := h
  obtain ⟨e1, e2, e3⟩ := eq_nodeNamed hD.2.2.1 hD.1 hD.2.1
  have hC := c_fx_nodeNamed (g := g) (I := I) (L := L) (σ := ι) (τ := σ) hl hS.2.2.2.2.2.1 hS.1 hD.2.2.2.2.2 hS.2.1 (Or.inr (by omega)) hD.1.1.1.cr.w rfl
  have a1 : ws_put I (x + 1) σ = I := hM.1
  have a2 : rg_put I (x + 249) 2 ι = I := hM.2.2.2.1
  rw [a1, a2, e1] at hC
  have M1 := hM.y (fx_nodeNamed ι σ (L (x + 1 + 120)))
  have hm := c_mf_nodeNamed (g := g) (I := rg_put I (x + 249) 2 (fx_nodeNamed ι σ (L (x + 1 + 120)))) (L := L) (σ := μ) (n := n) hl hS.2.2.2.2.2.2.1 hD.1.1.1.cr.m hD.2.2.1.2.1 hD.2.2.1.2.2.1
  have a3 : rg_put (rg_put I (x + 249) 2 (fx_nodeNamed ι σ (L (x + 1 + 120)))) (x + 251) 16 μ = rg_put I (x + 249) 2 (fx_nodeNamed ι σ (L (x + 1 + 120))) := M1.2.2.2.2
  rw [a3] at hm
  have f : ∀ o, o ≠ 0 → mf_nodeNamed μ n o = μ o := fun o ho => by unfold mf_nodeNamed; rw [pr_up_ne ho, pr_up_ne ho]
  exact ⟨5, 12, _, _, _, _, by decide, by decide, ⟨_, rfl⟩, hC, hm, σ, τ, φ, _, _, 0, hS, M1.m _, ⟨e3, by rw [f 1 (by decide)]; exact hD.2.1, e2, hD.2.2.2.1, hD.2.2.2.2.1, hD.2.2.2.2.2.up3 (nI_vin (k := 0) (by decide) (by decide))⟩, hSn.mv (Nat.le_refl _) (fun a a1 _ => (rg_out (by omega)).trans (rg_out (by omega))) (fun _ _ _ => rfl) e3.1.1.cr.m (fun o o1 o2 => f o (by omega))⟩
theorem ap_17 {μ : pr_I} {n : Nat} {q : Int64} : ∀ k, (mf_append_it62 μ n q k).1 0 17 = μ 0 17
  | 0 => by
    show pr_up μ 0 6 (0 : Int32) 0 17 = μ 0 17
    exact pr_upk (by decide)
  | k + 1 => by
    have ih := ap_17 (μ := μ) (n := n) (q := q) k
    simp only [mf_append_it62]
    generalize mf_append_it62 μ n q k = z at ih ⊢
    (repeat' split) <;> first | exact ih | exact (pr_upk (by decide)).trans ((pr_upv (by decide)).trans ih)
theorem ap_mI {μ : pr_I} {n : Nat} {q : Int64} (h : mI μ) : mI (mf_append μ n q) := fun o j B e => by
  by_cases o0 : o = 0
  · subst o0
    have j17 : j = 17 := by
      unfold mB at e
      rw [if_pos rfl] at e
      by_cases c : j = 17
      · exact c
      · rw [if_neg c] at e; cases e
    subst j17
    have k : mf_append μ n q 0 17 = μ 0 17 := by
      unfold mf_append
      split
      · exact ap_17 _
      · exact pr_upk (by decide)
    rw [k]; exact h 0 17 B e
  · by_cases o7 : o = 7
    · subst o7
      have : mB 7 j = none := rfl
      rw [this] at e; cases e
    · rw [fr_mf_append (by simp only [List.mem_cons, List.not_mem_nil, or_false, forall_eq_or_imp, forall_eq]; omega)]
      exact h o j B e
theorem S_append (hl : l.stackTraces = false) {q : Int64} (h : LI x T I L) : LwB0 g l x mX7_append mX8_append [.ref x, .long q] [.ref (x + 251), .long q] Rint T I L := by
  obtain ⟨σ, τ, φ, ι, μ, n, hS, hM, hD, hSn⟩ := h
  obtain ⟨e1, ⟨n', e2⟩, e3⟩ := eq_append (q := q) hD.2.2.1
  have hC := c_fx_append (g := g) (I := I) (L := L) (σ := ι) (q := q) hl hS.2.2.2.2.2.1 hS.1 hD.2.2.2.2.2
  have a2 : rg_put I (x + 249) 2 ι = I := hM.2.2.2.1
  rw [a2, e1] at hC
  have M1 := hM.y (fx_append ι q)
  have hm := c_mf_append2 (g := g) (I := rg_put I (x + 249) 2 (fx_append ι q)) (L := L) (σ := μ) (n := n) (q := q) hl hS.2.2.2.2.2.2.1 hD.1.1.1.cr.m hD.2.2.1.2.1 hD.2.2.1.2.2.1 e3
  have a3 : rg_put (rg_put I (x + 249) 2 (fx_append ι q)) (x + 251) 16 μ = rg_put I (x + 249) 2 (fx_append ι q) := M1.2.2.2.2
  rw [a3] at hm
  have f : ∀ o, o ≠ 0 → o ≠ 7 → mf_append μ n q o = μ o := fun o h0 h7 => fr_mf_append (by simp only [List.mem_cons, List.not_mem_nil, or_false, forall_eq_or_imp, forall_eq]; omega)
  have m' := ap_mI (n := n) (q := q) hD.1.1.1.cr.m
  have x' : WX σ (mf_append μ n q) := hD.1.cells m' (fun j _ => by rw [f 1 (by decide) (by decide)])
  have i' : in_I (fx_append ι q) := by
    unfold fx_append in_ad
    split
    · exact in_ad_I hD.2.2.2.2.2 _
    · exact hD.2.2.2.2.2
  exact ⟨3, 12, _, _, _, _, by decide, by decide, ⟨_, rfl⟩, hC, hm, σ, τ, φ, _, _, n', hS, M1.m _, ⟨x', by rw [f 1 (by decide) (by decide)]; exact hD.2.1, e2, hD.2.2.2.1, hD.2.2.2.2.1, i'⟩, hSn.mv (Nat.le_refl _) (fun a a1 _ => (rg_out (by omega)).trans (rg_out (by omega))) (fun _ _ _ => rfl) m' (fun o o1 o2 => f o (by omega) (by omega))⟩
theorem S_load (hl : l.stackTraces = false) (h : LI x T I L) : LwB0 g l x mX7_load mX8_load [.ref x] [.ref (x + 251)] Rint T I L := by
  obtain ⟨σ, τ, φ, ι, μ, n, hS, hM, hD, hSn⟩ := h
  have w := hD.1.1.1.cr.w
  have iI := hD.2.2.2.2.2
  obtain ⟨e1, e2, e3, e4⟩ := eq_load (ν := L (x + 122 + 120)) hD.2.2.1 hD.1.1.1.cr.m iI hD.2.2.2.1 w hD.1 hD.2.1
  have hC := c_fx_load (g := g) (I := I) (L := L) (σ := ι) (τ := τ) (ω := σ) hl hS.2.2.2.2.2.1 hS.1 iI hS.2.1 hS.2.2.1 (Or.inr (by omega)) (Or.inr (by omega)) (Or.inr (by omega)) hD.2.2.2.1 w rfl
  have a1 : ws_put I (x + 1) σ = I := hM.1
  have a2 : ws_put I (x + 122) τ = I := hM.2.1
  have a3 : rg_put I (x + 249) 2 ι = I := hM.2.2.2.1
  rw [a1, a2, a3, e1] at hC
  have M1 := ((hM.w (fx_load_w σ ι τ (L (x + 122 + 120)))).v (fx_load_v τ ι σ (L (x + 122 + 120)))).y (fx_load ι τ σ (L (x + 122 + 120)))
  obtain ⟨I1, hI1⟩ : ∃ I1, I1 = rg_put (ws_put (ws_put I (x + 1) (fx_load_w σ ι τ (L (x + 122 + 120)))) (x + 122) (fx_load_v τ ι σ (L (x + 122 + 120)))) (x + 249) 2 (fx_load ι τ σ (L (x + 122 + 120))) := ⟨_, rfl⟩
  have o1 : ∀ a, x + 268 ≤ a → I1 a = I a := fun a ha => by rw [hI1, rg_out (by omega), ws_out (by omega), ws_out (by omega)]
  rw [← hI1] at hC M1
  obtain ⟨L1, hL1⟩ : ∃ L1, L1 = (if ((in_ri ι τ (L (x + 122 + 120))) 0 0) = 0 then (l_cp (pr_rowl L (x + 122 + 120) (in_ri_nu ι τ (L (x + 122 + 120)))) (x + 122) (x + 1)) else (pr_rowl L (x + 122 + 120) (in_ri_nu ι τ (L (x + 122 + 120))))) := ⟨_, rfl⟩
  rw [← hL1] at hC
  have hm := c_mf_load2 (g := g) (T := T) (I := I1) (L := L1) (σ := μ) (n := n) hl hS.2.2.2.2.2.2.1 hD.1.1.1.cr.m hD.2.2.1.2.1 hD.2.2.1.2.2.1
  have a4 : rg_put I1 (x + 251) 16 μ = I1 := M1.2.2.2.2
  rw [a4] at hm
  have l1 : ∀ a, x + 268 ≤ a → L1 a = L a := fun a ha => by
    rw [hL1]
    split
    · unfold l_cp
      rw [pr_rowl_ne (by omega), pr_rowl_ne (by omega)]
    · rw [pr_rowl_ne (by omega)]
  have l2 : L1 (x + 1 + 120) = (if (in_ri ι τ (L (x + 122 + 120))) 0 0 = 0 then cp_row (in_ri_nu ι τ (L (x + 122 + 120))) (L (x + 1 + 120)) 12 else L (x + 1 + 120)) := by
    rw [hL1]
    by_cases c : (in_ri ι τ (L (x + 122 + 120))) 0 0 = 0
    · rw [if_pos c, if_pos c]
      unfold l_cp
      rw [pr_rowl_eq, pr_rowl_eq, pr_rowl_ne (show x + 1 + 120 ≠ x + 122 + 120 by omega)]
    · rw [if_neg c, if_neg c, pr_rowl_ne (show x + 1 + 120 ≠ x + 122 + 120 by omega)]
  have v' : wI (fx_load_v τ ι σ (L (x + 122 + 120))) := by
    unfold fx_load_v
    rw [ite_self]
    exact wI_in_ri_w iI hD.2.2.2.1
  have i' : in_I (fx_load ι τ σ (L (x + 122 + 120))) := by
    unfold fx_load
    rw [ite_self]
    exact inI_in_ri iI hD.2.2.2.1
  exact ⟨11, 12, _, I1, _, L1, by decide, by decide, ⟨_, rfl⟩, hC, hm, _, _, φ, _, _, 0, hS, M1.m _, ⟨e3, by rw [l2]; exact e4, e2, v', hD.2.2.2.2.1, i'⟩, hSn.mv (Nat.le_refl _) (fun a a1 _ => (rg_out (by omega)).trans (o1 a a1)) (fun a a1 _ => l1 a a1) e3.1.1.cr.m (fun o o1 o2 => fr_mf_load (by simp only [List.mem_cons, List.not_mem_nil, or_false, forall_eq_or_imp, forall_eq]; omega))⟩
end S0
