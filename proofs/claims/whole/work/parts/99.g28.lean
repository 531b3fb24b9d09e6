/-! A CALL ON BOTH SIDES: settings, snapshots -/
section SSV
variable {g : pr_C} {l : Launch} {M1 M2 : pr_MD} {as1 as2 : List Value} {P : Int32 → Value → Int64 → Prop} {x n d1 mc1 ms1 d2 : Nat} {T T1 : pr_T} {I I1 I2 : pr_I} {L L1 : pr_L} {σ τ φ ι μ σ' τ' φ' ι' μ' : pr_I} {c : Int32} {b v0 : Value} {r : Int64}
theorem LI.out (h : LI x T I L) : LI x T I (pr_upl L (x + 267) 0 r) := by
  obtain ⟨σ, τ, φ, ι, μ, n, hS, hM, hD, hSn⟩ := h
  have e := hSn.mv (Nat.le_refl T.1) (fun _ _ _ => rfl) (fun a a1 _ => pr_upl_ne (L := L) (a := x + 267) (b := a) (k := 0) (v := r) (by omega)) hD.1.1.1.cr.m (fun _ _ _ => rfl)
  exact ⟨σ, τ, φ, ι, μ, n, hS, hM, by rw [pr_upl_ne (show x + 1 + 120 ≠ x + 267 by omega)]; exact hD, e⟩
theorem LwB.mk (hd1 : d1 ≤ 12) (hmc : mc1 ≤ 122) (hms : ms1 ≤ 5821) (hC : pr_M g l d1 mc1 ms1 M1 as1 T I L (pr_R (some (.int 0)) T1 I1 (pr_upl L1 (x + 267) 0 r)) pr_no) (hd2 : d2 ≤ 12)
    (hm : pr_M g l d2 0 0 M2 as2 T1 I1 (pr_upl L1 (x + 267) 0 r) (pr_R (some b) T1 I2 (pr_upl L1 (x + 267) 0 r)) pr_no) (hP : P 0 b r) (h6 : I2 (x + 251) 6 = 0) (hLI : LI x T1 I2 L1) : LwB g l x M1 M2 as1 as2 P T I L := by
  have h8 : T1.2.1 (x + 251) = (8, 0) := by
    obtain ⟨_, _, _, _, _, _, hS, _⟩ := hLI
    exact mo_k0 hS.2.2.2.2.2.2.1
  refine ⟨d1, mc1, ms1, _, hd1, hmc, hms, hC, fun v T3 I3 L3 h => ?_⟩
  obtain ⟨rfl, rfl, rfl, rfl⟩ := h
  refine ⟨0, rfl, d2, _, hd2, h8, hm, fun v T2 I3 L3 h => ?_⟩
  obtain ⟨rfl, rfl, rfl, rfl⟩ := h
  refine ⟨⟨b, rfl, ?_⟩, h6, hLI.out⟩
  rw [show pr_upl L1 (x + 267) 0 r (x + 267) 0 = r from if_pos ⟨rfl, rfl⟩]; exact hP
end SSV
theorem sv_l {c : Nat} (hc : c < 5) : pr_sv 1 c = m_lst (1 + c) ∧ pr_sv 2 c = m_mst (1 + c) := by
  rcases (by omega : c = 0 ∨ c = 1 ∨ c = 2 ∨ c = 3 ∨ c = 4) with rfl | rfl | rfl | rfl | rfl <;> exact ⟨by decide, by decide⟩
theorem se_up {σ : pr_I} {c : Nat} {z : Int32} (h : Se σ) (hc : c < 5) (h1 : pr_sv 1 c ≤ z) (h2 : z ≤ pr_sv 2 c) : Se (pr_up σ 119 c z) := by
  have b1 := le_i.mp h1
  have b2 := le_i.mp h2
  obtain ⟨s0, s1, s2, s3, s4⟩ := h
  have e : ∀ j, j ≠ c → pr_up σ 119 c z 119 j = σ 119 j := fun j hj => pr_upk hj
  have f : pr_up σ 119 c z 119 c = z := pr_upe
  unfold Se
  rcases (by omega : c = 0 ∨ c = 1 ∨ c = 2 ∨ c = 3 ∨ c = 4) with rfl | rfl | rfl | rfl | rfl
  · rw [f, e 1 (by decide), e 2 (by decide), e 3 (by decide), e 4 (by decide)]
    rw [show (pr_sv 1 0).toInt = 1 by decide] at b1
    rw [show (pr_sv 2 0).toInt = 500 by decide] at b2
    exact ⟨⟨b1, b2⟩, s1, s2, s3, s4⟩
  · rw [f, e 0 (by decide), e 2 (by decide), e 3 (by decide), e 4 (by decide)]
    rw [show (pr_sv 1 1).toInt = 1 by decide] at b1
    rw [show (pr_sv 2 1).toInt = 100 by decide] at b2
    exact ⟨s0, ⟨b1, b2⟩, s2, s3, s4⟩
  · rw [f, e 0 (by decide), e 1 (by decide), e 3 (by decide), e 4 (by decide)]
    rw [show (pr_sv 1 2).toInt = 1 by decide] at b1
    rw [show (pr_sv 2 2).toInt = 9 by decide] at b2
    exact ⟨s0, s1, ⟨b1, b2⟩, s3, s4⟩
  · rw [f, e 0 (by decide), e 1 (by decide), e 2 (by decide), e 4 (by decide)]
    rw [show (pr_sv 1 3).toInt = 0 by decide] at b1
    rw [show (pr_sv 2 3).toInt = 100 by decide] at b2
    exact ⟨s0, s1, s2, ⟨b1, b2⟩, s4⟩
  · rw [f, e 0 (by decide), e 1 (by decide), e 2 (by decide), e 3 (by decide)]
    rw [show (pr_sv 1 4).toInt = 0 by decide] at b1
    rw [show (pr_sv 2 4).toInt = 100 by decide] at b2
    exact ⟨s0, s1, s2, s3, b1, b2⟩
theorem S_setSetting {g : pr_C} {l : Launch} (hl : l.stackTraces = false) {x : Nat} {T : pr_T} {I : pr_I} {L : pr_L} {p1 p2 : Int32} (h : LI x T I L) : LwB g l x mL_setSetting mX8_setSetting [.ref x, .int p1, .int p2, .ref (x + 267)] [.ref (x + 251), .int p1, .int p2] Pint T I L := by
  obtain ⟨σ, τ, φ, ι, μ, n, hS, hM, hD, hSn⟩ := h
  have X := hD.1
  have w := X.1.1.cr.w
  have mm := X.1.1.cr.m
  have hx := hS.1
  have x7 := hS.1.1
  have hw := hS.2.1
  have mo := hS.2.2.2.2.2.2.1
  have ho := hS.2.2.2.2.2.2.2.1
  by_cases c1 : (0 : Int32) ≤ p1 ∧ p1 ≤ (4 : Int32)
  · obtain ⟨k1, hk1, rfl⟩ := rng_k (b := 4) (by decide) c1.1 (show p1 ≤ nI 4 from c1.2)
    obtain ⟨q1, q2⟩ := sv_l (c := k1) (by omega)
    by_cases c2 : m_lst (1 + k1) ≤ p2 ∧ p2 ≤ m_mst (1 + k1)
    · have v1 : pr_sv 1 k1 ≤ p2 := by rw [q1]; exact c2.1
      have v2 : p2 ≤ pr_sv 2 k1 := by rw [q2]; exact c2.2
      have hc : (nI k1).toNatClampNeg = k1 := nI_clamp (by omega)
      obtain ⟨e1, e2⟩ := eq_setSetting X.1 (c := k1) (by omega) (se_up X.1.1.se (by omega) v1 v2)
      exact LwB.okw hS hM hD hSn (by decide) (by decide) (k_setSetting hl (c_fx_setSetting hl hw hx w hk1 (by rw [hc]; exact v1) (by rw [hc]; exact v2)) x7 ho) (c_mf_setSetting hl mo mm hk1 c2.1 c2.2) ⟨_, rfl, fun _ => congrArg Int32.toInt64 e2⟩ z6_mf_setSetting (WXof X e1 (tx_setSetting X.2.1) ((pr_upk (by omega)).trans (pr_upv (by decide)))) (kp_setSetting hk1)
    · have b := rng_bad c2
      exact LwB.th hS hM hD hSn (by decide) (by decide) (by decide) ⟨_, rfl, fun z => absurd z (by decide)⟩ (k_setSetting_a hl (t_setSetting_1 (c := k1) hl (by omega) (by rw [q1, q2]; exact b.1)) x7) (fun T' hT => r_setSetting_1 hl hT mm hk1 b.2)
  · exact LwB.th hS hM hD hSn (by decide) (by decide) (by decide) ⟨_, rfl, fun z => absurd z (by decide)⟩ (k_setSetting_a hl (t_setSetting_0 hl hw hx (rng_bad c1).1) x7) (fun T' hT => r_setSetting_0 hl hT mm (rng_bad c1).2)
/-! snapshots -/
section SNP
variable {x n N i : Nat} {T T' : pr_T} {I I' I1 : pr_I} {L L' L1 : pr_L} {σ τ φ ι μ σ' τ' φ' ι' μ' ψ : pr_I} {ν : Nat → Int64}
theorem Sn.at (h : Sn x T I L μ) (hi : i < 2) : Sn1 x T I L μ i := by
  rcases (by omega : i = 0 ∨ i = 1) with rfl | rfl
  · exact h.1
  · exact h.2.1
theorem Sn.ap (h : Sn x T I L μ) {i j a b : Nat} (hi : i < 2) (hj : j < 2) (hij : i ≠ j) (ha : T.2.2 (x + 243) i = some a) (hb : T.2.2 (x + 243) j = some b) : a + 121 ≤ b ∨ b + 121 ≤ a := by
  rcases (by omega : (i = 0 ∧ j = 1) ∨ (i = 1 ∧ j = 0)) with ⟨rfl, rfl⟩ | ⟨rfl, rfl⟩
  · exact h.2.2 a b ha hb
  · exact (h.2.2 b a hb ha).symm
/-- one snapshot is set, the other stays -/
theorem Sn.of (hi : i < 2) (hN : Sn1 x T' I' L' μ' i) (hO : ∀ j, j < 2 → j ≠ i → Sn1 x T' I' L' μ' j) (hA : ∀ j a b, j < 2 → j ≠ i → T'.2.2 (x + 243) i = some a → T'.2.2 (x + 243) j = some b → a + 121 ≤ b ∨ b + 121 ≤ a) : Sn x T' I' L' μ' := by
  rcases (by omega : i = 0 ∨ i = 1) with rfl | rfl
  · exact ⟨hN, hO 1 (by decide) (by decide), fun a b h1 h2 => hA 1 a b (by decide) (by decide) h1 h2⟩
  · exact ⟨hO 0 (by decide) (by decide), hN, fun a b h1 h2 => (hA 0 b a (by decide) (by decide) h2 h1).symm⟩
/-- the memory's kinds behind a first saving -/
theorem Sta.sn (h : Sta x T) {k : Nat} : Sta x (snT T (x + 243) k) := by
  obtain ⟨h1, h2, h3, h4, h5, h6, h7, h8, h9⟩ := h
  have hs : x + 243 < T.1 := by omega
  obtain ⟨f0, f1, f2, f3, f4, f5⟩ := snT_f (k := k) hs
  refine ⟨snT_X7 hs h1 (by omega) (by omega), snT_W hs h2 (by omega) (by omega), snT_W hs h3 (by omega) (by omega), (f1 _ hs).trans h4, ⟨(f1 _ (by omega)).trans h5.1, (f1 _ (by omega)).trans h5.2.1, (f1 _ (by omega)).trans h5.2.2.1, (f1 _ (by omega)).trans h5.2.2.2.1, (f1 _ (by omega)).trans h5.2.2.2.2.1, fun k' hk' => ?_⟩, ⟨(f1 _ (by omega)).trans h6.1, (f1 _ (by omega)).trans h6.2.1, ?_⟩, ⟨fun o ho => (f1 _ (by omega)).trans (h7.1 o ho), fun k' b hb => ?_⟩, (f1 _ (by omega)).trans h8, by rw [f0]; omega⟩
  · rw [f2 _ (by omega) (by omega)]; exact h5.2.2.2.2.2 k' hk'
  · rw [f2 _ (by omega) (by omega)]; exact h6.2.2
  · rw [f2 _ (by omega) (by omega)]; exact h7.2 k' b hb
/-- behind a saving -/
theorem LI.saved (hS : Sta x T) (hM : Mm x I σ τ φ ι μ) (hD : Da σ τ φ ι μ n (L (x + 1 + 120))) (hSn : Sn x T I L μ) (hi : i < 2) {u : Nat} (hS' : Sta x T') (hT1 : T.1 ≤ T'.1) (hTW : ∀ a, a + 121 ≤ T.1 → x + 268 ≤ a → pr_W T a → pr_W T' a) (hTi : T'.2.2 (x + 243) i = some u) (hTj : ∀ j, j ≠ i → T'.2.2 (x + 243) j = T.2.2 (x + 243) j) (hu : pr_W T' u) (hu1 : x + 268 ≤ u) (hu2 : u + 121 ≤ T'.1)
    (hap : ∀ j a, j < 2 → j ≠ i → T.2.2 (x + 243) j = some a → a + 121 ≤ T.1 → u + 121 ≤ a ∨ a + 121 ≤ u) (hL : ∀ a, a ≠ u + 120 → L' a = L a) (hx : WX σ μ') (hs : SNr ψ μ' (L' (u + 120)) (4 + i)) (h6 : μ' 6 i = 1) (h6j : ∀ j, j < 2 → j ≠ i → μ' 6 j = μ 6 j) (hfr : ∀ o, o ≠ 0 → o ≠ 4 + i → o ≠ 6 → μ' o = μ o) (h8 : ∀ j, j = 8 ∨ j = 13 → μ' 0 j = μ 0 j) : LI x T' (rg_put (ws_put I u ψ) (x + 251) 16 μ') L' := by
  obtain ⟨d1, d2, d3, d4, d5, d6⟩ := hD
  have e1 : μ' 1 = μ 1 := hfr 1 (by decide) (by omega) (by decide)
  refine ⟨σ, τ, φ, ι, μ', n, hS', (hM.up (fun a ha => ws_out (by omega))).m μ', ⟨hx, by rw [e1, hL _ (by omega)]; exact d2, ⟨d3.1, (h8 8 (Or.inl rfl)).trans d3.2.1, d3.2.2.1, by rw [hfr 7 (by decide) (by omega) (by decide)]; exact d3.2.2.2.1, d3.2.2.2.2.trans (h8 13 (Or.inr rfl)).symm⟩, d4, d5, d6⟩, ?_⟩
  refine Sn.of hi (Or.inr ⟨u, ψ, hTi, hu, hu1, hu2, ?_, hs, h6⟩) (fun j hj hji => ?_) (fun j a b hj hji ha hb => ?_)
  · exact hW.mv (I := ws_put I u ψ) ws_put_put (fun a _ _ => rg_out (by omega))
  · rcases hSn.at hj with ⟨a, b⟩ | ⟨u', ψ', a, b, c, d, e, f, k⟩
    · exact Or.inl ⟨(hTj j hji).trans a, (h6j j hj hji).trans b⟩
    · have ap := hap j u' hj hji a d
      refine Or.inr ⟨u', ψ', (hTj j hji).trans a, hTW u' d c b, c, Nat.le_trans d hT1, e.mv (fun z z1 z2 => (rg_out (by omega)).trans (ws_out (by omega))), ?_, (h6j j hj hji).trans k⟩
      rw [hL _ (by omega)]
      exact f.cong hx.1.1.cr.m (by omega) (hfr _ (by omega) (by omega) (by omega))
  · rw [hTi] at ha
    rw [hTj j hji] at hb
    have := hap j b hj hji hb
    rcases hSn.at hj with ⟨q, _⟩ | ⟨u', ψ', q, _, _, d, _⟩
    · rw [q] at hb; cases hb
    · rw [q] at hb; cases hb
      cases ha
      exact this d
/-- behind a restoring -/
theorem LI.restored (hS : Sta x T) (hM : Mm x I σ τ φ ι μ) (hD : Da σ τ φ ι μ n (L (x + 1 + 120))) (hSn : Sn x T I L μ) (hL : ∀ a, a ≠ x + 1 + 120 → L' a = L a) (hx : WX σ' μ') (hn : NM (L' (x + 1 + 120)) (μ' 1) (ndn σ')) (hfr : ∀ o, o ≠ 0 → o ≠ 1 → μ' o = μ o) (h8 : ∀ j, j = 8 ∨ j = 13 → μ' 0 j = μ 0 j) : LI x T (rg_put (ws_put I (x + 1) σ') (x + 251) 16 μ') L' := by
  obtain ⟨d1, d2, d3, d4, d5, d6⟩ := hD
  exact ⟨σ', τ, φ, ι, μ', n, hS, (hM.w σ').m μ', ⟨hx, hn, ⟨d3.1, (h8 8 (Or.inl rfl)).trans d3.2.1, d3.2.2.1, by rw [hfr 7 (by decide) (by decide)]; exact d3.2.2.2.1, d3.2.2.2.2.trans (h8 13 (Or.inr rfl)).symm⟩, d4, d5, d6⟩, hSn.mv (Nat.le_refl _) (fun a a1 a2 => (rg_out (by omega)).trans (ws_out (by omega))) (fun a a1 _ => hL a (by omega)) hx.1.1.cr.m (fun o o1 o2 => hfr o (by omega) (by omega))⟩
end SNP
section SAV
variable {g : pr_C} {l : Launch} {x : Nat} {T : pr_T} {I : pr_I} {L : pr_L}
theorem SNr.w {τ μ : pr_I} {ν : Nat → Int64} {a : Nat} (h : SNr τ μ ν a) : wI τ := h.1.1.1.cr.w
/-- saving into k, whichever side: the reference's facts as hypotheses -/
theorem S_save {σ τ φ ι μ μ' : pr_I} {n k : Nat} {r0 : Int32} (hl : l.stackTraces = false) (hS : Sta x T) (hM : Mm x I σ τ φ ι μ) (hD : Da σ τ φ ι μ n (L (x + 1 + 120))) (hSn : Sn x T I L μ) (hk : k < 2)
    (hm : ∀ (T' : pr_T) (I' : pr_I) (L' : pr_L), pr_Mo T' (x + 251) → pr_M g l 11 0 0 mX8_saveSnapshot [.ref (x + 251), .int (nI k)] T' (rg_put I' (x + 251) 16 μ) L' (pr_R (some (.int r0)) T' (rg_put I' (x + 251) 16 μ') L') pr_no)
    (he : ∀ (ψ : pr_I) (ν' : Nat → Int64), wI ψ → σ 0 7 = r0 ∧ WX σ μ' ∧ SNr (wcp ψ σ) μ' (cp_row (L (x + 1 + 120)) ν' 12) (4 + k) ∧ μ' 6 k = 1) (h60 : μ' 0 6 = 0) (h6j : ∀ j, j < 2 → j ≠ k → μ' 6 j = μ 6 j) (hfr : ∀ o, o ≠ 0 → o ≠ 4 + k → o ≠ 6 → μ' o = μ o) (h8 : ∀ j, j = 8 ∨ j = 13 → μ' 0 j = μ 0 j) :
    LwB g l x mL_saveSnapshot mX8_saveSnapshot [.ref x, .int (nI k), .ref (x + 267)] [.ref (x + 251), .int (nI k)] Pint T I L := by
  have w := hD.1.1.1.cr.w
  have hx := hS.1
  have x7 := hS.1.1
  have hw := hS.2.1
  have sn := hS.2.2.2.1
  have ho := hS.2.2.2.2.2.2.2.1
  have h9 := hS.2.2.2.2.2.2.2.2
  rcases hSn.at hk with ⟨a, b⟩ | ⟨u, ψ, a, b, c, d, e, f, _⟩
  · obtain ⟨f0, f1, f2, f3, f4, f5⟩ := snT_f (T := T) (sn := x + 243) (k := k) (by omega)
    have hC := c_fx_save0 (g := g) (I := I) (L := L) (σ := σ) hl hw (by omega) hx (by omega) (by omega) (by omega) (by omega) sn hk a w
    have hS' := hS.sn (k := k)
    have eM : ws_put I (x + 1) σ = I := hM.1
    rw [eM] at hC
    have wf : wI (snw I T.1) := wI_fresh (fun o ho => snw_0 ho)
    obtain ⟨q1, q2, q3, q4⟩ := he (snw I T.1) ((nwL L T.1) (T.1 + 120)) wf
    have eL : (nwL L T.1) (x + 1 + 120) = L (x + 1 + 120) := pr_rowl_ne (by omega)
    have hM1 : hR (ws_put I T.1 (wcp (snw I T.1) σ)) (x + 251) 16 μ := hM.2.2.2.2.mv (fun a _ _ => ws_out (by omega))
    have hm' := hm (snT T (x + 243) k) (ws_put I T.1 (wcp (snw I T.1) σ)) (pr_upl (l_cp (nwL L T.1) (x + 1) T.1) (x + 267) 0 (σ 0 7).toInt64) hS'.2.2.2.2.2.2.1
    have hm2 := hm'
    rw [hM1] at hm2
    refine LwB.mk (by decide) (by decide) (by decide) (k_saveSnapshot hl hC x7 ((f1 _ (by omega)).trans ho)) (by decide) hm2 ⟨_, rfl, fun _ => congrArg Int32.toInt64 q1⟩ (by rw [rg_val0 (by decide)]; exact h60) ?_
    have eR : (l_cp (nwL L T.1) (x + 1) T.1) (T.1 + 120) = cp_row (L (x + 1 + 120)) ((nwL L T.1) (T.1 + 120)) 12 := by
      unfold l_cp
      rw [pr_rowl_eq, eL]
    refine LI.saved hS hM hD hSn hk (u := T.1) hS' (by rw [f0]; omega) (fun a a1 a2 hW => snT_W (by omega) hW a1 (by omega)) f4 f5 f3 (by omega) (by rw [f0]; omega) (fun j a _ _ _ h => Or.inr h) (fun a ha => ?_) q2 (by rw [eR]; exact q3) q4 h6j hfr h8
    unfold l_cp
    rw [pr_rowl_ne ha]
    exact pr_rowl_ne (by omega)
  · have hC := c_fx_save (g := g) (I := I) (L := L) (σ := σ) (τ := ψ) hl hw b (by omega) hx sn hk a w
    have eM : ws_put I (x + 1) σ = I := hM.1
    have eU : ws_put I u ψ = I := e
    rw [eM, eU] at hC
    obtain ⟨q1, q2, q3, q4⟩ := he ψ (L (u + 120)) f.w
    have hM1 : hR (ws_put I u (wcp ψ σ)) (x + 251) 16 μ := hM.2.2.2.2.mv (fun a _ _ => ws_out (by omega))
    have hm2 := hm T (ws_put I u (wcp ψ σ)) (pr_upl (l_cp L (x + 1) u) (x + 267) 0 (σ 0 7).toInt64) hS.2.2.2.2.2.2.1
    rw [hM1] at hm2
    refine LwB.mk (by decide) (by decide) (by decide) (k_saveSnapshot hl hC x7 ho) (by decide) hm2 ⟨_, rfl, fun _ => congrArg Int32.toInt64 q1⟩ (by rw [rg_val0 (by decide)]; exact h60) ?_
    have eR : (l_cp L (x + 1) u) (u + 120) = cp_row (L (x + 1 + 120)) (L (u + 120)) 12 := by
      unfold l_cp
      rw [pr_rowl_eq]
    exact LI.saved hS hM hD hSn hk (u := u) hS (Nat.le_refl _) (fun a a1 a2 hW => hW) a (fun j _ => rfl) b c d (fun j a' hj hji ha' _ => hSn.ap hk hj (fun z => hji z.symm) a ha') (fun a ha => pr_rowl_ne ha) q2 (by rw [eR]; exact q3) q4 h6j hfr h8
theorem S_saveSnapshot (hl : l.stackTraces = false) {p1 : Int32} (h : LI x T I L) : LwB g l x mL_saveSnapshot mX8_saveSnapshot [.ref x, .int p1, .ref (x + 267)] [.ref (x + 251), .int p1] Pint T I L := by
  obtain ⟨σ, τ, φ, ι, μ, n, hS, hM, hD, hSn⟩ := h
  have X := hD.1
  have mm := X.1.1.cr.m
  have hx := hS.1
  have x7 := hS.1.1
  have hw := hS.2.1
  by_cases c1 : (0 : Int32) ≤ p1 ∧ p1 ≤ (1 : Int32)
  · obtain ⟨k1, hk1, rfl⟩ := rng_k (b := 1) (by decide) c1.1 (show p1 ≤ nI 1 from c1.2)
    rcases (by omega : k1 = 0 ∨ k1 = 1) with rfl | rfl
    · have F := eq_save0 X hD.2.1 (wI_fresh (τ := fun _ _ => 0) (fun _ _ => rfl)) (ν' := fun _ => 0)
      refine S_save hl hS hM hD hSn (by decide) (fun T' I' L' hT => c_mf_saveSnapshot0 hl hT mm) (fun ψ ν' hψ => ?_) z6_mf_saveSnapshot0 (fun j hj hji => ?_) (fun o a b c => F.2.2.2.2.2 o a b c) (fun j hj => z8_mf_saveSnapshot0 hj)
      · obtain ⟨q1, q2, q3, q4, q5, q6⟩ := eq_save0 X hD.2.1 hψ (ν' := ν')
        exact ⟨q1, q2, q3, q4⟩
      · rw [show j = 1 by omega]; exact F.2.2.2.2.1
    · have F := eq_save1 X hD.2.1 (wI_fresh (τ := fun _ _ => 0) (fun _ _ => rfl)) (ν' := fun _ => 0)
      refine S_save hl hS hM hD hSn (by decide) (fun T' I' L' hT => c_mf_saveSnapshot1 hl hT mm) (fun ψ ν' hψ => ?_) z6_mf_saveSnapshot1 (fun j hj hji => ?_) (fun o a b c => F.2.2.2.2.2 o a b c) (fun j hj => z8_mf_saveSnapshot1 hj)
      · obtain ⟨q1, q2, q3, q4, q5, q6⟩ := eq_save1 X hD.2.1 hψ (ν' := ν')
        exact ⟨q1, q2, q3, q4⟩
      · rw [show j = 0 by omega]; exact F.2.2.2.2.1
  · exact LwB.th hS hM hD hSn (by decide) (by decide) (by decide) ⟨_, rfl, fun z => absurd z (by decide)⟩ (k_saveSnapshot_a hl (t_saveSnapshot_0 hl hw hx (rng_bad c1).1) x7) (fun T' hT => r_saveSnapshot_0 hl hT mm (rng_bad c1).2)
theorem S_rest {σ τ φ ι μ μ' : pr_I} {n k : Nat} {r0 : Int32} (hl : l.stackTraces = false) (hS : Sta x T) (hM : Mm x I σ τ φ ι μ) (hD : Da σ τ φ ι μ n (L (x + 1 + 120))) (hSn : Sn x T I L μ) (hk : k < 2)
    (hm : ∀ (I' : pr_I) (L' : pr_L), pr_M g l 11 0 0 mX8_restoreSnapshot [.ref (x + 251), .int (nI k)] T (rg_put I' (x + 251) 16 μ) L' (pr_R (some (.int r0)) T (rg_put I' (x + 251) 16 μ') L') pr_no)
    (hN : μ 6 k = 0 → r0 = -1 ∧ WX σ μ' ∧ KPm μ μ') (he : ∀ (ψ : pr_I) (ν ν' : Nat → Int64), SNr ψ μ ν (4 + k) → ¬ μ 6 k = 0 → WX (wcp σ ψ) μ' ∧ NM (cp_row ν ν' 12) (μ' 1) (ndn (wcp σ ψ)) ∧ (wcp σ ψ) 0 7 = r0) (h60 : μ' 0 6 = 0) (hfr : ∀ o, o ≠ 0 → o ≠ 1 → μ' o = μ o) (h8 : ∀ j, j = 8 ∨ j = 13 → μ' 0 j = μ 0 j) :
    LwB g l x mL_restoreSnapshot mX8_restoreSnapshot [.ref x, .int (nI k), .ref (x + 267)] [.ref (x + 251), .int (nI k)] Pint T I L := by
  have w := hD.1.1.1.cr.w
  have hx := hS.1
  have x7 := hS.1.1
  have hw := hS.2.1
  have sn := hS.2.2.2.1
  have ho := hS.2.2.2.2.2.2.2.1
  rcases hSn.at hk with ⟨a, b⟩ | ⟨u, ψ, a, b, c, d, e, f, s⟩
  · obtain ⟨q1, q2, q3⟩ := hN b
    have hC := c_fx_restore0 (g := g) (I := I) (L := L) hl hx sn hk a
    have hm2 := hm I (pr_upl L (x + 267) 0 (-1 : Int32).toInt64)
    rw [hM.2.2.2.2] at hm2
    refine LwB.mk (by decide) (by decide) (by decide) (k_restoreSnapshot hl hC x7 ho) (by decide) hm2 ⟨_, rfl, fun _ => congrArg Int32.toInt64 q1.symm⟩ (by rw [rg_val0 (by decide)]; exact h60) ?_
    exact LI.fin hS hD hSn hM (Nat.le_refl _) (fun _ _ _ => rfl) (fun _ _ _ => rfl) rfl q2 q3 hD.2.2.2.1 hD.2.2.2.2.1
  · obtain ⟨q1, q2, q3⟩ := he ψ (L (u + 120)) (L (x + 1 + 120)) f (by rw [s]; decide)
    have hC := c_fx_restore (g := g) (I := I) (L := L) (σ := σ) (τ := ψ) hl hw b (by omega) hx sn hk a f.w
    have eM : ws_put I (x + 1) σ = I := hM.1
    have eU : ws_put I u ψ = I := e
    rw [eU, eM] at hC
    have hM1 : hR (ws_put I (x + 1) (wcp σ ψ)) (x + 251) 16 μ := hM.2.2.2.2.mv (fun a _ _ => ws_out (by omega))
    have hm2 := hm (ws_put I (x + 1) (wcp σ ψ)) (pr_upl (l_cp L u (x + 1)) (x + 267) 0 ((wcp σ ψ) 0 7).toInt64)
    rw [hM1] at hm2
    refine LwB.mk (by decide) (by decide) (by decide) (k_restoreSnapshot hl hC x7 ho) (by decide) hm2 ⟨_, rfl, fun _ => congrArg Int32.toInt64 q3⟩ (by rw [rg_val0 (by decide)]; exact h60) ?_
    have eR : (l_cp L u (x + 1)) (x + 1 + 120) = cp_row (L (u + 120)) (L (x + 1 + 120)) 12 := by
      unfold l_cp
      rw [pr_rowl_eq]
    exact LI.restored hS hM hD hSn (fun a ha => pr_rowl_ne ha) q1 (by rw [eR]; exact q2) hfr h8
theorem S_restoreSnapshot (hl : l.stackTraces = false) {p1 : Int32} (h : LI x T I L) : LwB g l x mL_restoreSnapshot mX8_restoreSnapshot [.ref x, .int p1, .ref (x + 267)] [.ref (x + 251), .int p1] Pint T I L := by
  obtain ⟨σ, τ, φ, ι, μ, n, hS, hM, hD, hSn⟩ := h
  have X := hD.1
  have w := X.1.1.cr.w
  have mm := X.1.1.cr.m
  have hx := hS.1
  have x7 := hS.1.1
  have hw := hS.2.1
  have mo := hS.2.2.2.2.2.2.1
  by_cases c1 : (0 : Int32) ≤ p1 ∧ p1 ≤ (1 : Int32)
  · obtain ⟨k1, hk1, rfl⟩ := rng_k (b := 1) (by decide) c1.1 (show p1 ≤ nI 1 from c1.2)
    rcases (by omega : k1 = 0 ∨ k1 = 1) with rfl | rfl
    · refine S_rest hl hS hM hD hSn (by decide) (fun I' L' => c_mf_restoreSnapshot0 hl mo mm) (fun s => ?_) (fun ψ ν ν' h s => eq_restore0 h w mm s) z6_mf_restoreSnapshot0 (fun o a b => fr_mf_restoreSnapshot0 (by simp only [List.mem_cons, List.not_mem_nil, or_false, forall_eq_or_imp, forall_eq]; omega)) (fun j hj => z8_mf_restoreSnapshot0 hj)
      obtain ⟨a, b⟩ := (eq_restoreN X).1 s
      refine ⟨a, b, ?_⟩
      unfold mf_restoreSnapshot0
      rw [if_pos s]; exact KPm.six
    · refine S_rest hl hS hM hD hSn (by decide) (fun I' L' => c_mf_restoreSnapshot1 hl mo mm) (fun s => ?_) (fun ψ ν ν' h s => eq_restore1 h w mm s) z6_mf_restoreSnapshot1 (fun o a b => fr_mf_restoreSnapshot1 (by simp only [List.mem_cons, List.not_mem_nil, or_false, forall_eq_or_imp, forall_eq]; omega)) (fun j hj => z8_mf_restoreSnapshot1 hj)
      obtain ⟨a, b⟩ := (eq_restoreN X).2 s
      refine ⟨a, b, ?_⟩
      unfold mf_restoreSnapshot1
      rw [if_pos s]; exact KPm.six
  · exact LwB.th hS hM hD hSn (by decide) (by decide) (by decide) ⟨_, rfl, fun z => absurd z (by decide)⟩ (k_restoreSnapshot_a hl (t_restoreSnapshot_0 hl hw hx (rng_bad c1).1) x7) (fun T' hT => r_restoreSnapshot_0 hl hT mm (rng_bad c1).2)
end SAV
