/-! THE LAW FROM ITS ENTRY -/
set_option maxRecDepth 100000 in
set_option maxHeartbeats 400000 in
theorem lw_steps {g : pr_C} {X : pr_X} {Q : State → Prop} {T : pr_T} {L : pr_L} {Inv : Nat → pr_I → pr_I → Prop} (M : LM g Inv) {x : Nat} {τ φ ι : pr_I} (hA : pr_Am g X mLaw 13 600104 7301314) (hN : pr_scn g ≤ 260) (hS : lSt x T) (hτ : wI τ) (hφ : fl_I φ) (hn : T.2.2 (x + 243) 1 = none) {cs sl : Nat} (hcs : cs + 121 ≤ 600104) (hsl : sl + 5815 ≤ 7301314)
    (fin : ∀ (ls : List Value) (T : pr_T) (I : pr_I) (L : pr_L), pr_G g X 4 Q 600104 7301314 185 ls [.int 1] T I L) : ∀ (n k : Nat) (I σ μ : pr_I), 18 - k = n → k ≤ 18 → lMm x I σ τ φ ι → Inv k σ μ → pr_G g X 4 Q cs sl 25 [.ref (pr_sa g 5), .ref x, .int (nI k), .null] [] T I L := by
  intro n
  induction n with
  | zero =>
    intro k I σ μ hk hk9 hM hv
    have he : k = 18 := by omega
    subst he
    refine pr_iload_n hA dL_law_25 rfl ?_
    refine pr_bipush hA (nI 18) dL_law_26 (by decide) ?_
    refine pr_icmp_ge hA 48 dL_law_28 (by decide) (fun _ => ?_) (fun c_28 => absurd ((nI_leI (by decide) (by decide)).mpr (by decide)) c_28)
    exact lw_tail M hA hN hS hM hτ hφ hn hv hcs hsl fin
  | succ n ih =>
    intro k I σ μ hk hk9 hM hv
    obtain ⟨hx, h5, h7⟩ := M.m2 k σ μ hv
    have h9 := hx.l9 h7
    have n5 := hx.n5 h5
    refine pr_iload_n hA dL_law_25 rfl ?_
    refine pr_bipush hA (nI 18) dL_law_26 (by decide) ?_
    refine pr_icmp_ge hA 48 dL_law_28 (by decide) (fun c_28 => absurd c_28 (fun q9 => by have := (nI_leI (by omega) (by omega)).mp q9; omega)) (fun _ => ?_)
    refine pr_aload_n hA dL_law_31 rfl ?_
    refine pr_aload_n hA dL_law_32 rfl ?_
    refine pr_bipush hA (nI 60) dL_law_33 (by decide) ?_
    refine pr_iconst hA (nI 3) dL_law_35 (by decide) ?_
    refine pr_iload_n hA dL_law_36 rfl ?_
    refine pr_imul hA dL_law_37 ?_
    refine pr_topE (z := nI (3 * k)) (Int32.ofNat_mul 3 k).symm ?_
    refine pr_iadd hA dL_law_38 ?_
    refine pr_topE (z := nI (60 + 3 * k)) (nI_add _ _) ?_
    refine pr_callS hA rfl (As := [.ref x, .ref (pr_sa g 5), .int (nI (60 + 3 * k))]) (c_step (pr_hl hA) hN hS hM hx.w n5 h9 (by omega)) s_L_199 rfl (by decide) (by omega) (by omega) rfl (Nat.le_of_ble_eq_true rfl) dL_law_39 (fun v9 T9 I9 L9 q9 => ?_) (fun _ _ _ _ q => q.elim)
    obtain ⟨rfl, e7, e8, σ9, hM9, hs9⟩ := q9; obtain rfl := e7.symm; obtain rfl := e8.symm
    obtain ⟨μ9, hv9⟩ := M.m1 k σ μ σ9 (by omega) hv hs9
    refine pr_iinc (ls' := [_, _, _, _]) hA (nI (k + 1)) dL_law_42 (by decide) rfl (nI_inc _) rfl ?_
    refine pr_goto hA 25 dL_law_45 (by decide) ?_
    exact ih (k + 1) _ σ9 μ9 (by omega) (by omega) hM9 hv9
set_option maxRecDepth 100000 in
set_option maxHeartbeats 400000 in
theorem lw_walk0 {g : pr_C} {X : pr_X} {Q : State → Prop} {T : pr_T} {I : pr_I} {L : pr_L} {Inv : Nat → pr_I → pr_I → Prop} (M : LM g Inv) (hA : pr_Am g X mLaw 13 600104 7301314) (hN : pr_scn g ≤ 260) 
    (fin : ∀ (ls : List Value) (T : pr_T) (I : pr_I) (L : pr_L), pr_G g X 4 Q 600104 7301314 185 ls [.int 1] T I L) : pr_G g X 4 Q 0 0 0 [.ref (pr_sa g 5), .null, .null, .null] [] T I L := by
  obtain ⟨x, hx⟩ : ∃ x, x = T.1 := ⟨_, rfl⟩
  have k1 : (pr_new T 7 0).2.1 x = (7, 0) := if_pos hx
  have k2 : x < (pr_new T 7 0).1 := by show x < T.1 + 1; omega
  obtain ⟨T2, hT2⟩ : ∃ T2, T2 = tX7_init (pr_new T 7 0) x := ⟨_, rfl⟩
  have hT0 : (pr_new T 7 0).1 = x + 1 := by show T.1 + 1 = _; omega
  obtain ⟨m1, m2, m3, m4, m5, m6, m7, m8, m9⟩ := made_X7 (T := pr_new T 7 0) hT0 k1
  rw [← hT2] at m1 m2 m3 m4 m5 m6 m7 m8
  obtain ⟨I2, hI2⟩ : ∃ I2, I2 = iX7 (pr_row I x (fun _ => 0)) (x + 1) := ⟨_, rfl⟩
  refine pr_newO hA n_L_24 (by decide) (by decide) dL_law_0 ?_
  refine pr_dup hA dL_law_3 rfl ?_
  rw [← hx]
  refine pr_callI (st := [.ref x]) (As := []) hA rfl (c_X7_init (pr_hl hA) k1 k2) b_L_191 kI_X7_init rfl rfl rfl (by decide) (by decide) (by decide) rfl (Nat.le_of_ble_eq_true rfl) dL_law_4 (fun v T' I' L' hv => ?_)
  obtain ⟨rfl, rfl, rfl, rfl⟩ := hv
  rw [← hT2, hT0, ← hI2]
  obtain ⟨L2, hL2⟩ : ∃ L2, L2 = nwL (nwL L (x + 1)) (x + 1 + 121) := ⟨_, rfl⟩
  rw [← hL2]
  refine pr_astore_n (n := 1) (ls' := [.ref (pr_sa g 5), .ref x, .null, .null]) hA dL_law_7 (by decide) rfl ?_
  refine pr_aload_n hA dL_law_8 rfl ?_
  refine pr_aload_n hA dL_law_9 rfl ?_
  refine pr_callS hA rfl (As := [.ref (pr_sa g 5)]) (c_text (pr_hl hA) hN) s_L_192 rfl (by decide) (by decide) (by decide) rfl (Nat.le_of_ble_eq_true rfl) dL_law_10 (fun v9 T3 I3 L3 q9 => ?_) (fun _ _ _ _ q => q.elim)
  obtain ⟨s, u, rfl, ⟨t1, t2⟩, e8, jo, s1, s2, u1, u2⟩ := q9
  obtain rfl := e8.symm
  rw [m8] at t1 t2 s1 u1
  have kk : ∀ a, a < x + 251 → T3.2.1 a = T2.2.1 a := fun a ha => (t2 a ha).1
  have kr : ∀ a, a < x + 251 → T3.2.2 a = T2.2.2 a := fun a ha => (t2 a ha).2.1
  have kI : ∀ a, a < x + 251 → I3 a = I2 a := fun a ha => (t2 a ha).2.2
  have hS : lSt x T3 := by
    refine ⟨?_, ?_, ?_, (kk _ (by omega)).trans m4, ?_, ?_, t1⟩
    · obtain ⟨a0, a1, a2, a3, a4, a5⟩ := m1
      exact ⟨(kk _ (by omega)).trans a0, by rw [kr _ (by omega)]; exact a1, by rw [kr _ (by omega)]; exact a2, by rw [kr _ (by omega)]; exact a3, by rw [kr _ (by omega)]; exact a4, by rw [kr _ (by omega)]; exact a5⟩
    · exact ⟨fun o ho => (kk _ (by omega)).trans (m2.1 o ho), fun o ho k b hk => by rw [kr _ (by omega)]; exact m2.2 o ho k b hk⟩
    · exact ⟨fun o ho => (kk _ (by omega)).trans (m3.1 o ho), fun o ho k b hk => by rw [kr _ (by omega)]; exact m3.2 o ho k b hk⟩
    · exact ⟨(kk _ (by omega)).trans m6.1, (kk _ (by omega)).trans m6.2.1, (kk _ (by omega)).trans m6.2.2.1, (kk _ (by omega)).trans m6.2.2.2.1, (kk _ (by omega)).trans m6.2.2.2.2.1, fun k hk => by rw [kr _ (by omega)]; exact m6.2.2.2.2.2 k hk⟩
    · exact ⟨(kk _ (by omega)).trans m7.1, (kk _ (by omega)).trans m7.2.1, by rw [kr _ (by omega)]; exact m7.2.2⟩
  have hn : T3.2.2 (x + 243) 1 = none := by rw [kr _ (by omega)]; exact m5 1
  have w0 : ∀ o, o < 119 → ws_get I3 (x + 1) o = fun _ => 0 := fun o ho => by
    show I3 (x + 1 + o) = _
    rw [kI _ (by omega), hI2, ix_w ho]
  have w1 : ∀ j, j < 5 → ws_get I3 (x + 1) 119 j = pr_sv 0 j := fun j hj => by
    show I3 (x + 1 + 119) j = _
    rw [kI _ (by omega), hI2, ix_ws]
    unfold va_cpy
    rw [if_pos ⟨Nat.zero_le _, by omega⟩]
    congr 1
    omega
  have v0 : ∀ o, o < 119 → ws_get I3 (x + 122) o = fun _ => 0 := fun o ho => by
    show I3 (x + 122 + o) = _
    rw [kI _ (by omega), hI2, show x + 122 + o = x + 1 + 121 + o by omega, ix_v ho]
  have y0 : rg_get I3 (x + 249) 0 = fun _ => 0 := by
    show I3 (x + 249) = _
    rw [kI _ (by omega), hI2, ix_y (by omega) (by omega)]
  have f0 : ∀ o, o < 5 → rg_get I3 (x + 244) o = fun _ => 0 := fun o ho => by
    show I3 (x + 244 + o) = _
    rw [kI _ (by omega), hI2, ix_f (by omega) (by omega)]
  obtain ⟨σ, hσ⟩ : ∃ σ, ws_get I3 (x + 1) = σ := ⟨_, rfl⟩
  obtain ⟨τ, hτ⟩ : ∃ τ, ws_get I3 (x + 122) = τ := ⟨_, rfl⟩
  obtain ⟨φ, hφ⟩ : ∃ φ, rg_get I3 (x + 244) = φ := ⟨_, rfl⟩
  obtain ⟨ι, hι⟩ : ∃ ι, rg_get I3 (x + 249) = ι := ⟨_, rfl⟩
  have hM : lMm x I3 σ τ φ ι := by rw [← hσ, ← hτ, ← hφ, ← hι]; exact ⟨ws_self, ws_self, rg_self, rg_self⟩
  rw [hσ] at w0 w1
  rw [hτ] at v0
  rw [hι] at y0
  rw [hφ] at f0
  have wσ : wI σ := wI_fresh w0
  have wτ : wI τ := wI_fresh v0
  have fφ : fl_I φ := fun i => by
    rw [f0 3 (by decide), f0 4 (by decide)]
    exact ⟨vp0 (by decide), vp0 (by decide)⟩
  have iι : in_I ι := by
    unfold in_I
    rw [y0]
    exact ⟨vp0 (by decide), vp0 (by decide)⟩
  have hlt := jo.2.2.2.2.2.1
  refine pr_callS hA rfl (As := [.ref x, .ref s]) (c_lload (pr_hl hA) hS hM jo s1 u1 wσ wτ iι (fun j hj => getD_of (llk_1 g) hj) (fun j => ?_) (llk_p g) (by rw [y0])) s_L_196 rfl (by decide) (by decide) (by decide) rfl (Nat.le_of_ble_eq_true rfl) dL_law_13 (fun v9 T4 I4 L4 q9 => ?_) (fun _ _ _ _ q => q.elim)
  · by_cases c : j < (llk g 9).length
    · exact getD_of hlt c
    · rw [List.getD_eq_getElem?_getD, List.getElem?_eq_none (by omega)]
      decide
  obtain ⟨ι1, a1, a2, rfl, e7, a3⟩ := q9
  obtain rfl := e7.symm
  obtain ⟨b1, b2, μ, b3⟩ := M.m0 ι1 τ σ (L2 (x + 122 + 120)) a1 a2 hlt w0 w1 wτ
  refine pr_bipush hA (nI 9) dL_law_16 (by decide) ?_
  refine pr_icmp_eq hA 23 dL_law_18 (by decide) (fun _ => ?_) (fun c => absurd b1 c)
  refine pr_iconst hA (nI 0) dL_law_23 (by decide) ?_
  refine pr_istore_n (ls' := [_, _, .int (nI 0), _]) hA dL_law_24 (by decide) rfl ?_
  exact lw_steps M hA hN hS b2 fφ hn (by decide) (by decide) fin 18 0 _ _ μ rfl (by decide) a3 b3
