/-! THE LAW'S STATE: what lies in the memory at the loop's head -/
abbrev hW (I : pr_I) (w : Nat) (σ : pr_I) : Prop := ws_put I w σ = I
abbrev hR (I : pr_I) (a n : Nat) (φ : pr_I) : Prop := rg_put I a n φ = I
theorem hW.mv {I I' : pr_I} {w : Nat} {σ : pr_I} (h : hW I w σ) (e : ∀ a, w ≤ a → a < w + 121 → I' a = I a) : hW I' w σ := by
  funext a
  by_cases c : w ≤ a ∧ a < w + 121
  · have q := congrFun h a
    unfold ws_put at q ⊢
    rw [if_pos c] at q ⊢
    rw [e a c.1 c.2]; exact q
  · unfold ws_put
    rw [if_neg c]
theorem hR.mv {I I' : pr_I} {w n : Nat} {σ : pr_I} (h : hR I w n σ) (e : ∀ a, w ≤ a → a < w + n → I' a = I a) : hR I' w n σ := by
  funext a
  by_cases c : w ≤ a ∧ a < w + n
  · have q := congrFun h a
    unfold rg_put at q ⊢
    rw [if_pos c] at q ⊢
    rw [e a c.1 c.2]; exact q
  · unfold rg_put
    rw [if_neg c]
theorem hR.c0 {I : pr_I} {a n k : Nat} {φ : pr_I} (h : hR I a n φ) (hn : 0 < n) : I a k = φ 0 k := by
  have q : rg_put I a n φ a k = I a k := by rw [h]
  exact q.symm.trans (rg_val0 hn)
def Mm (x : Nat) (I : pr_I) (σ τ φ ι μ : pr_I) : Prop := hW I (x + 1) σ ∧ hW I (x + 122) τ ∧ hR I (x + 244) 5 φ ∧ hR I (x + 249) 2 ι ∧ hR I (x + 251) 16 μ
section MMS
variable {x : Nat} {I : pr_I} {σ τ φ ι μ : pr_I}
theorem Mm.w (h : Mm x I σ τ φ ι μ) (σ' : pr_I) : Mm x (ws_put I (x + 1) σ') σ' τ φ ι μ :=
  ⟨ws_put_put, h.2.1.mv (fun a _ _ => ws_out (by omega)), h.2.2.1.mv (fun a _ _ => ws_out (by omega)), h.2.2.2.1.mv (fun a _ _ => ws_out (by omega)), h.2.2.2.2.mv (fun a _ _ => ws_out (by omega))⟩
theorem Mm.v (h : Mm x I σ τ φ ι μ) (τ' : pr_I) : Mm x (ws_put I (x + 122) τ') σ τ' φ ι μ :=
  ⟨h.1.mv (fun a _ _ => ws_out (by omega)), ws_put_put, h.2.2.1.mv (fun a _ _ => ws_out (by omega)), h.2.2.2.1.mv (fun a _ _ => ws_out (by omega)), h.2.2.2.2.mv (fun a _ _ => ws_out (by omega))⟩
theorem Mm.f (h : Mm x I σ τ φ ι μ) (φ' : pr_I) : Mm x (rg_put I (x + 244) 5 φ') σ τ φ' ι μ :=
  ⟨h.1.mv (fun a _ _ => rg_out (by omega)), h.2.1.mv (fun a _ _ => rg_out (by omega)), rg_put_put, h.2.2.2.1.mv (fun a _ _ => rg_out (by omega)), h.2.2.2.2.mv (fun a _ _ => rg_out (by omega))⟩
theorem Mm.y (h : Mm x I σ τ φ ι μ) (ι' : pr_I) : Mm x (rg_put I (x + 249) 2 ι') σ τ φ ι' μ :=
  ⟨h.1.mv (fun a _ _ => rg_out (by omega)), h.2.1.mv (fun a _ _ => rg_out (by omega)), h.2.2.1.mv (fun a _ _ => rg_out (by omega)), rg_put_put, h.2.2.2.2.mv (fun a _ _ => rg_out (by omega))⟩
theorem Mm.m (h : Mm x I σ τ φ ι μ) (μ' : pr_I) : Mm x (rg_put I (x + 251) 16 μ') σ τ φ ι μ' :=
  ⟨h.1.mv (fun a _ _ => rg_out (by omega)), h.2.1.mv (fun a _ _ => rg_out (by omega)), h.2.2.1.mv (fun a _ _ => rg_out (by omega)), h.2.2.2.1.mv (fun a _ _ => rg_out (by omega)), rg_put_put⟩
theorem Mm.up {I' : pr_I} (h : Mm x I σ τ φ ι μ) (e : ∀ a, a < x + 268 → I' a = I a) : Mm x I' σ τ φ ι μ :=
  ⟨h.1.mv (fun a _ _ => e a (by omega)), h.2.1.mv (fun a _ _ => e a (by omega)), h.2.2.1.mv (fun a _ _ => e a (by omega)), h.2.2.2.1.mv (fun a _ _ => e a (by omega)), h.2.2.2.2.mv (fun a _ _ => e a (by omega))⟩
end MMS
/-- the kinds and references that stay -/
def Sta (x : Nat) (T : pr_T) : Prop := pr_X7 T x (x + 1) (x + 122) (x + 243) (x + 244) (x + 249) ∧ pr_W T (x + 1) ∧ pr_W T (x + 122) ∧ T.2.1 (x + 243) = (25, 2) ∧ pr_Fl T (x + 244) ∧ pr_In T (x + 249) ∧ pr_Mo T (x + 251) ∧ T.2.1 (x + 267) = (21, 1) ∧ x + 268 ≤ T.1
theorem Sta.more {x : Nat} {T : pr_T} (h : Sta x T) {N : Nat} (hN : T.1 ≤ N) : Sta x (N, T.2) := ⟨h.1, h.2.1, h.2.2.1, h.2.2.2.1, h.2.2.2.2.1, h.2.2.2.2.2.1, h.2.2.2.2.2.2.1, h.2.2.2.2.2.2.2.1, Nat.le_trans h.2.2.2.2.2.2.2.2 hN⟩
/-- a snapshot on both sides -/
def Sn1 (x : Nat) (T : pr_T) (I : pr_I) (L : pr_L) (μ : pr_I) (i : Nat) : Prop :=
  (T.2.2 (x + 243) i = none ∧ μ 6 i = 0) ∨ ∃ (u : Nat) (ψ : pr_I), T.2.2 (x + 243) i = some u ∧ pr_W T u ∧ x + 268 ≤ u ∧ u + 121 ≤ T.1 ∧ hW I u ψ ∧ SNr ψ μ (L (u + 120)) (4 + i) ∧ μ 6 i = 1
def Sn (x : Nat) (T : pr_T) (I : pr_I) (L : pr_L) (μ : pr_I) : Prop :=
  Sn1 x T I L μ 0 ∧ Sn1 x T I L μ 1 ∧ ∀ u0 u1, T.2.2 (x + 243) 0 = some u0 → T.2.2 (x + 243) 1 = some u1 → u0 + 121 ≤ u1 ∨ u1 + 121 ≤ u0
def Da (σ τ φ ι μ : pr_I) (n : Nat) (ν : Nat → Int64) : Prop := WX σ μ ∧ NM ν (μ 1) (ndn σ) ∧ TXT ι μ n ∧ wI τ ∧ fl_I φ ∧ in_I ι
def LI (x : Nat) (T : pr_T) (I : pr_I) (L : pr_L) : Prop := ∃ (σ τ φ ι μ : pr_I) (n : Nat), Sta x T ∧ Mm x I σ τ φ ι μ ∧ Da σ τ φ ι μ n (L (x + 1 + 120)) ∧ Sn x T I L μ
/-- what the reference keeps -/
def KPm (μ μ' : pr_I) : Prop := (∀ o, 4 ≤ o → o < 8 → μ' o = μ o) ∧ (∀ j, j = 8 ∨ j = 13 → μ' 0 j = μ 0 j) ∧ ∀ j, j = 6 ∨ (12 ≤ j ∧ j < 96) → μ' 1 j = μ 1 j
theorem KPm.six {μ : pr_I} {v : Int32} : KPm μ (pr_up μ 0 6 v) := ⟨fun o h _ => pr_up_ne (by omega), fun j h => pr_upk (by omega), fun j _ => pr_upv (by decide)⟩
theorem KPm.row {μ μ' : pr_I} (h1 : ∀ o, 4 ≤ o → o < 8 → μ' o = μ o) (h2 : ∀ j, j = 8 ∨ j = 13 → μ' 0 j = μ 0 j) (h3 : μ' 1 = μ 1) : KPm μ μ' := ⟨h1, h2, fun j _ => by rw [h3]⟩
section LIS
variable {x n N : Nat} {T : pr_T} {I I' I1 : pr_I} {L L' L1 : pr_L} {σ τ φ ι μ σ' τ' φ' ι' μ' : pr_I} {ν : Nat → Int64}
theorem Sn1.mv {i : Nat} (h : Sn1 x T I L μ i) (hi : i < 2) (hN : T.1 ≤ N) (eI : ∀ a, x + 268 ≤ a → a < T.1 → I' a = I a) (eL : ∀ a, x + 268 ≤ a → a < T.1 → L' a = L a) (hm : mI μ') (e4 : μ' (4 + i) = μ (4 + i)) (e6 : μ' 6 i = μ 6 i) : Sn1 x (N, T.2) I' L' μ' i := by
  rcases h with ⟨a, b⟩ | ⟨u, ψ, a, b, c, d, e, f, k⟩
  · exact Or.inl ⟨a, e6.trans b⟩
  · refine Or.inr ⟨u, ψ, a, b, c, Nat.le_trans d hN, e.mv (fun z z1 z2 => eI z (by omega) (by omega)), ?_, e6.trans k⟩
    rw [eL (u + 120) (by omega) (by omega)]
    exact f.cong hm (by omega) e4
theorem Sn.mv (h : Sn x T I L μ) (hN : T.1 ≤ N) (eI : ∀ a, x + 268 ≤ a → a < T.1 → I' a = I a) (eL : ∀ a, x + 268 ≤ a → a < T.1 → L' a = L a) (hm : mI μ') (e : ∀ o, 4 ≤ o → o < 7 → μ' o = μ o) : Sn x (N, T.2) I' L' μ' :=
  ⟨h.1.mv (by decide) hN eI eL hm (e 4 (by decide) (by decide)) (by rw [e 6 (by decide) (by decide)]), h.2.1.mv (by decide) hN eI eL hm (e 5 (by decide) (by decide)) (by rw [e 6 (by decide) (by decide)]), h.2.2⟩
theorem Da.go (h : Da σ τ φ ι μ n ν) (hx : WX σ' μ') (k : KPm μ μ') (t' : wI τ') (f' : fl_I φ') : Da σ' τ' φ' ι μ' n ν := by
  obtain ⟨h1, h2, h3, h4, h5, h6⟩ := h
  have e : ndn σ' = ndn σ := by
    have a : σ' 0 6 = μ' 1 6 := hx.1.1.cr.rc.g (j := 6) (by decide)
    have b : σ 0 6 = μ 1 6 := h1.1.1.cr.rc.g (j := 6) (by decide)
    unfold ndn
    rw [a, b, k.2.2 6 (Or.inl rfl)]
  refine ⟨hx, ?_, ⟨h3.1, (k.2.1 8 (Or.inl rfl)).trans h3.2.1, h3.2.2.1, ?_, h3.2.2.2.2.trans (k.2.1 13 (Or.inr rfl)).symm⟩, t', f', h6⟩
  · rw [e]
    exact h2.cong h1.nn12 (fun i a b => k.2.2 i (Or.inr ⟨a, b⟩))
  · rw [k.1 7 (by decide) (by decide)]
    exact h3.2.2.2.1
theorem LI.fin (hS : Sta x T) (hD : Da σ τ φ ι μ n (L (x + 1 + 120))) (hSn : Sn x T I L μ) (hM : Mm x I1 σ' τ' φ' ι μ) (hN : T.1 ≤ N) (eI : ∀ a, x + 268 ≤ a → a < T.1 → I1 a = I a) (eL : ∀ a, x + 268 ≤ a → a < T.1 → L1 a = L a) (eL0 : L1 (x + 1 + 120) = L (x + 1 + 120)) (hx : WX σ' μ') (k : KPm μ μ') (t' : wI τ') (f' : fl_I φ') : LI x (N, T.2) (rg_put I1 (x + 251) 16 μ') L1 :=
  ⟨σ', τ', φ', ι, μ', n, hS.more hN, hM.m μ', by rw [eL0]; exact hD.go hx k t' f', hSn.mv hN (fun a a1 a2 => (rg_out (by omega)).trans (eI a a1 a2)) eL hx.1.1.cr.m (fun o a b => k.1 o a (by omega))⟩
end LIS
/-- what is said of the reference's call, behind the class' -/
def Nx (g : pr_C) (l : Launch) (x : Nat) (M2 : pr_MD) (as2 : List Value) (k : Int32) (P : Value → Int64 → Prop) (T1 : pr_T) (I1 : pr_I) (L1 : pr_L) : Prop :=
  ∃ (d2 : Nat) (Φ : Option Value → pr_T → pr_I → pr_L → Prop), d2 ≤ 12 ∧ T1.2.1 (x + 251) = (8, 0) ∧ pr_M g l d2 0 0 M2 as2 T1 I1 L1 Φ pr_no ∧ ∀ v T2 I2 L2, Φ v T2 I2 L2 → (∃ b, v = some b ∧ P b (L2 (x + 267) 0)) ∧ I2 (x + 251) 6 = k ∧ LI x T2 I2 L2
def LwB (g : pr_C) (l : Launch) (x : Nat) (M1 M2 : pr_MD) (as1 as2 : List Value) (P : Int32 → Value → Int64 → Prop) (T : pr_T) (I : pr_I) (L : pr_L) : Prop :=
  ∃ (d1 mc1 ms1 : Nat) (Φ : Option Value → pr_T → pr_I → pr_L → Prop), d1 ≤ 12 ∧ mc1 ≤ 122 ∧ ms1 ≤ 5821 ∧ pr_M g l d1 mc1 ms1 M1 as1 T I L Φ pr_no ∧ ∀ v T1 I1 L1, Φ v T1 I1 L1 → ∃ k, v = some (.int k) ∧ Nx g l x M2 as2 k (P k) T1 I1 L1
def Pint (k : Int32) (v : Value) (r : Int64) : Prop := ∃ b : Int32, v = .int b ∧ (k = 0 → r = b.toInt64)
def Plong (k : Int32) (v : Value) (r : Int64) : Prop := ∃ b : Int64, v = .long b ∧ (k = 0 → r = b)
section BDS
variable {g : pr_C} {l : Launch} {M1 M2 : pr_MD} {as1 as2 : List Value} {P : Int32 → Value → Int64 → Prop} {x n d1 mc1 ms1 d2 : Nat} {T : pr_T} {I I1 : pr_I} {L L1 : pr_L} {σ τ φ ι μ σ' τ' φ' ι' μ' : pr_I} {c : Int32} {b v0 : Value} {r : Int64}
theorem out_ne {a : Nat} (h : a ≠ x + 267) : pr_upl L1 (x + 267) 0 r a = L1 a := pr_upl_ne h
/-- both refuse -/
theorem LwB.th (hS : Sta x T) (hM : Mm x I σ τ φ ι μ) (hD : Da σ τ φ ι μ n (L (x + 1 + 120))) (hSn : Sn x T I L μ) (hd1 : d1 ≤ 12) (hmc : mc1 ≤ 122) (hms : ms1 ≤ 5821) (hP : P c v0 (L (x + 267) 0))
    (hC : pr_M g l d1 mc1 ms1 M1 as1 T (ws_put I (x + 1) σ) L (pr_Ct c T (ws_put I (x + 1) σ) L) pr_no)
    (hm : ∀ T' : pr_T, pr_Mo T' (x + 251) → pr_M g l 11 0 0 M2 as2 T' (rg_put I (x + 251) 16 μ) L (pr_R (some v0) T' (rg_put I (x + 251) 16 (pr_up μ 0 6 c)) L) pr_no) : LwB g l x M1 M2 as1 as2 P T I L := by
  rw [hM.1] at hC
  refine ⟨d1, mc1, ms1, _, hd1, hmc, hms, hC, fun v T1 I1 L1 h => ?_⟩
  obtain ⟨rfl, ⟨N, hN, rfl⟩, rfl, rfl⟩ := h
  have h2 := hm (N, T.2) (hS.more hN).2.2.2.2.2.2.1
  rw [hM.2.2.2.2] at h2
  refine ⟨c, rfl, 11, _, by decide, mo_k0 hS.2.2.2.2.2.2.1, h2, fun v T2 I2 L2 h => ?_⟩
  obtain ⟨rfl, rfl, rfl, rfl⟩ := h
  refine ⟨⟨v0, rfl, hP⟩, ?_, ?_⟩
  · rw [rg_val0 (by decide), pr_upe]
  · exact LI.fin hS hD hSn hM hN (fun _ _ _ => rfl) (fun _ _ _ => rfl) rfl (hD.1.cells (hD.1.1.1.cr.m.upn rfl) (fun j _ => pr_upv (by decide))) KPm.six hD.2.2.2.1 hD.2.2.2.2.1
/-- both answer -/
theorem LwB.ok (hS : Sta x T) (hD : Da σ τ φ ι μ n (L (x + 1 + 120))) (hSn : Sn x T I L μ) (hM : Mm x I1 σ' τ' φ' ι μ) (hd1 : d1 ≤ 12) (hd2 : d2 ≤ 12)
    (hC : pr_M g l d1 0 0 M1 as1 T I L (pr_R (some (.int 0)) T I1 (pr_upl L1 (x + 267) 0 r)) pr_no)
    (hm : pr_M g l d2 0 0 M2 as2 T (rg_put I1 (x + 251) 16 μ) (pr_upl L1 (x + 267) 0 r) (pr_R (some b) T (rg_put I1 (x + 251) 16 μ') (pr_upl L1 (x + 267) 0 r)) pr_no)
    (hP : P 0 b r) (h6 : μ' 0 6 = 0) (eI : ∀ a, x + 268 ≤ a → a < T.1 → I1 a = I a) (eL : ∀ a, x + 268 ≤ a → a < T.1 → L1 a = L a) (eL0 : L1 (x + 1 + 120) = L (x + 1 + 120)) (hx : WX σ' μ') (k : KPm μ μ') (t' : wI τ') (f' : fl_I φ') : LwB g l x M1 M2 as1 as2 P T I L := by
  refine ⟨d1, 0, 0, _, hd1, by decide, by decide, hC, fun v T1 I2 L2 h => ?_⟩
  obtain ⟨rfl, rfl, rfl, rfl⟩ := h
  rw [hM.2.2.2.2] at hm
  refine ⟨0, rfl, d2, _, hd2, mo_k0 hS.2.2.2.2.2.2.1, hm, fun v T2 I3 L3 h => ?_⟩
  obtain ⟨rfl, rfl, rfl, rfl⟩ := h
  refine ⟨⟨b, rfl, ?_⟩, ?_, ?_⟩
  · rw [show pr_upl L1 (x + 267) 0 r (x + 267) 0 = r from if_pos ⟨rfl, rfl⟩]; exact hP
  · rw [rg_val0 (by decide)]; exact h6
  · exact LI.fin hS hD hSn hM (Nat.le_refl _) eI (fun a a1 a2 => (out_ne (by omega)).trans (eL a a1 a2)) ((out_ne (by omega)).trans eL0) hx k t' f'
/-- within the class' world -/
theorem LwB.okw (hS : Sta x T) (hM : Mm x I σ τ φ ι μ) (hD : Da σ τ φ ι μ n (L (x + 1 + 120))) (hSn : Sn x T I L μ) (hd1 : d1 ≤ 12) (hd2 : d2 ≤ 12)
    (hC : pr_M g l d1 0 0 M1 as1 T (ws_put I (x + 1) σ) L (pr_R (some (.int 0)) T (ws_put I (x + 1) σ') (pr_upl L (x + 267) 0 r)) pr_no)
    (hm : pr_M g l d2 0 0 M2 as2 T (rg_put (ws_put I (x + 1) σ') (x + 251) 16 μ) (pr_upl L (x + 267) 0 r) (pr_R (some b) T (rg_put (ws_put I (x + 1) σ') (x + 251) 16 μ') (pr_upl L (x + 267) 0 r)) pr_no)
    (hP : P 0 b r) (h6 : μ' 0 6 = 0) (hx : WX σ' μ') (k : KPm μ μ') : LwB g l x M1 M2 as1 as2 P T I L := by
  have hC' := hC
  rw [hM.1] at hC'
  exact LwB.ok hS hD hSn (hM.w σ') hd1 hd2 hC' hm hP h6 (fun a a1 _ => ws_out (by omega)) (fun _ _ _ => rfl) rfl hx k hD.2.2.2.1 hD.2.2.2.2.1
/-- in the second world -/
theorem LwB.okv (hS : Sta x T) (hM : Mm x I σ τ φ ι μ) (hD : Da σ τ φ ι μ n (L (x + 1 + 120))) (hSn : Sn x T I L μ) (hd1 : d1 ≤ 12) (hd2 : d2 ≤ 12)
    (hC : pr_M g l d1 0 0 M1 as1 T (ws_put (ws_put I (x + 1) σ) (x + 122) τ) L (pr_R (some (.int 0)) T (ws_put (ws_put I (x + 1) σ) (x + 122) τ') (pr_upl (l_cp L (x + 1) (x + 122)) (x + 267) 0 r)) pr_no)
    (hm : ∀ L1 : pr_L, pr_M g l d2 0 0 M2 as2 T (rg_put (ws_put I (x + 122) τ') (x + 251) 16 μ) L1 (pr_R (some b) T (rg_put (ws_put I (x + 122) τ') (x + 251) 16 μ') L1) pr_no)
    (hP : P 0 b r) (h6 : μ' 0 6 = 0) (hx : WX σ μ') (k : KPm μ μ') (t' : wI τ') : LwB g l x M1 M2 as1 as2 P T I L := by
  have hC' := hC
  rw [hM.1, hM.2.1] at hC'
  exact LwB.ok hS hD hSn (hM.v τ') hd1 hd2 hC' (hm _) hP h6 (fun a a1 _ => ws_out (by omega)) (fun a a1 _ => pr_rowl_ne (by omega)) (pr_rowl_ne (by omega)) hx k t' hD.2.2.2.2.1
/-- in the flow -/
theorem LwB.okf (hS : Sta x T) (hM : Mm x I σ τ φ ι μ) (hD : Da σ τ φ ι μ n (L (x + 1 + 120))) (hSn : Sn x T I L μ) (hd1 : d1 ≤ 12) (hd2 : d2 ≤ 12)
    (hC : pr_M g l d1 0 0 M1 as1 T (rg_put (ws_put I (x + 1) σ) (x + 244) 5 φ) L (pr_R (some (.int 0)) T (rg_put (ws_put I (x + 1) σ) (x + 244) 5 φ') (pr_upl L (x + 267) 0 r)) pr_no)
    (hm : ∀ L1 : pr_L, pr_M g l d2 0 0 M2 as2 T (rg_put (rg_put I (x + 244) 5 φ') (x + 251) 16 μ) L1 (pr_R (some b) T (rg_put (rg_put I (x + 244) 5 φ') (x + 251) 16 μ') L1) pr_no)
    (hP : P 0 b r) (h6 : μ' 0 6 = 0) (hx : WX σ μ') (k : KPm μ μ') (f' : fl_I φ') : LwB g l x M1 M2 as1 as2 P T I L := by
  have hC' := hC
  rw [hM.1, hM.2.2.1] at hC'
  exact LwB.ok hS hD hSn (hM.f φ') hd1 hd2 hC' (hm _) hP h6 (fun a a1 _ => rg_out (by omega)) (fun _ _ _ => rfl) rfl hx k hD.2.2.2.1 f'
end BDS
/-! RANGES AND INDICES -/
theorem idx_k {p : Int32} {n : Nat} (h : vp_in p n) (hn : n < 2147483648) : ∃ k, k < n ∧ p = nI k := ⟨p.toNatClampNeg, vp_in_lt h, vp_nI h hn⟩
theorem rng_k {p : Int32} {b : Nat} (hb : b < 1000000) (h0 : 0 ≤ p) (h1 : p ≤ nI b) : ∃ k, k ≤ b ∧ p = nI k := by
  have h : vp_in p (b + 1) := by
    rintro (q | q)
    · rw [le_i] at h0; rw [lt_i] at q; omega
    · have c : ¬ p < 0 := fun z => by rw [le_i] at h0; rw [lt_i] at z; omega
      have e := pr_toInt c
      rw [le_i, nI_toI (by omega)] at h1
      omega
  obtain ⟨k, a, e⟩ := idx_k h (by omega)
  exact ⟨k, by omega, e⟩
theorem rng_bad {p lo hi : Int32} (h : ¬ (lo ≤ p ∧ p ≤ hi)) : (p < lo ∨ ¬ p ≤ hi) ∧ (p < lo ∨ hi < p) := by
  simp only [le_i, lt_i] at h ⊢
  omega
