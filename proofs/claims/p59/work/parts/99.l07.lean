/-! THE LAW'S foresees() -/
def IsP (σ μ : pr_I) : Prop :=
  ¬ mf_ticksUntilQuiet_r μ < 0 ∧ ¬ mf_activeWithout_r μ 0 9 + mf_greatestNew_r μ 0 1 < -9 ∧
  (0 < rqn σ → 0 < mf_ticksUntilActive_r μ 0 → mf_ticksUntilActive_r μ 0 ≤ 2000 ∧ mf_stateAfter_r μ 0 (mf_ticksUntilActive_r μ 0) = 2 ∧ ¬ mf_stateAfter_r μ 0 (mf_ticksUntilActive_r μ 0 - 1) = 2) ∧
  (∀ ω, WX ω μ → wI (fx_advance ω 30) ∧ w_rev_r (fx_advance ω 30) = mf_revenueAfter_r μ 30) ∧
  (0 < mf_ticksUntilQuiet_r μ → mf_ticksUntilQuiet_r μ ≤ 1000 → ∀ ω, WX ω μ → wI (fx_advance ω (mf_ticksUntilQuiet_r μ)) ∧ (fx_advance ω (mf_ticksUntilQuiet_r μ)) 0 7 = ω 0 7 + mf_ticksUntilQuiet_r μ ∧ fx_nextEvent_r (fx_advance ω (mf_ticksUntilQuiet_r μ)) = -1)
theorem lSt.sn {x : Nat} {T : pr_T} (h : lSt x T) {k : Nat} : lSt x (snT T (x + 243) k) := by
  obtain ⟨h1, h2, h3, h4, h5, h6, h9⟩ := h
  have hs : x + 243 < T.1 := by omega
  obtain ⟨f0, f1, f2, f3, f4, f5⟩ := snT_f (k := k) hs
  refine ⟨snT_X7 hs h1 (by omega) (by omega), snT_W hs h2 (by omega) (by omega), snT_W hs h3 (by omega) (by omega), (f1 _ hs).trans h4, ⟨(f1 _ (by omega)).trans h5.1, (f1 _ (by omega)).trans h5.2.1, (f1 _ (by omega)).trans h5.2.2.1, (f1 _ (by omega)).trans h5.2.2.2.1, (f1 _ (by omega)).trans h5.2.2.2.2.1, fun k' hk' => ?_⟩, ⟨(f1 _ (by omega)).trans h6.1, (f1 _ (by omega)).trans h6.2.1, ?_⟩, by rw [f0]; omega⟩
  · rw [f2 _ (by omega) (by omega)]; exact h5.2.2.2.2.2 k' hk'
  · rw [f2 _ (by omega) (by omega)]; exact h6.2.2
theorem WX.now {σ μ : pr_I} (h : WX σ μ) : σ 0 7 = μ 1 0 := h.1.1.cr.now
theorem i_m1 {n : Int32} (h : 0 < n) (h2 : n ≤ 2000) : 0 ≤ n - 1 ∧ n - 1 ≤ 2000 := by
  rw [lt_i] at h
  rw [le_i] at h2
  have z0 : (0 : Int32).toInt = 0 := rfl
  have z1 : (1 : Int32).toInt = 1 := rfl
  have z2 : (2000 : Int32).toInt = 2000 := rfl
  have e : (n - 1).toInt = n.toInt - 1 := by rw [i_sub (by omega) (by omega), z1]
  rw [le_i, le_i, e]
  omega
theorem i_pos {n : Int32} (h : 0 < n) : 1 ≤ n := by
  rw [lt_i] at h
  rw [le_i]
  have z0 : (0 : Int32).toInt = 0 := rfl
  have z1 : (1 : Int32).toInt = 1 := rfl
  omega
theorem i_nlt {a b : Int32} (h : ¬ a < b) : b ≤ a := by rw [lt_i] at h; rw [le_i]; omega
theorem i_nle {a b : Int32} (h : ¬ a ≤ b) : b < a := by rw [le_i] at h; rw [lt_i]; omega
theorem i_lt_le {a b : Int32} (h : a < b) : a ≤ b := by rw [lt_i] at h; rw [le_i]; omega
set_option maxRecDepth 100000 in
set_option maxHeartbeats 400000 in
theorem c_foresees {g : pr_C} {l : Launch} (hl : l.stackTraces = false) {T : pr_T} {I : pr_I} {L : pr_L} {x : Nat} {σ τ φ ι μ : pr_I} (hS : lSt x T) (hM : lMm x I σ τ φ ι) (hτ : wI τ) (hx : WX σ μ) (h5 : μ 1 6 = nI 5) (h9 : lkn σ = 9) (hn : T.2.2 (x + 243) 1 = none) (F : IsP σ μ) : pr_M g l 12 121 5815 mL_foresees [.ref x] T I L (fun v9 _ _ _ => v9 = some (.int 1)) pr_no := by
  refine pr_ofG (by decide) rfl hl (Nat.le_of_ble_eq_true rfl) (fun X hA hX hXn hXt => ?_)
  subst hX
  show pr_G g X mL_foresees.2.2.1 _ 0 0 0 [.ref x, .null, .null, .null, .null, .null, .null, .null, .null] [] T I L
  obtain ⟨F1, F2, F3, F4, F5⟩ := F
  have nn := hx.n5 h5
  have h4 := wI_nr4 hx.w
  obtain ⟨q, hq⟩ : ∃ q, mf_ticksUntilQuiet_r μ = q := ⟨_, rfl⟩
  obtain ⟨mo, hmo⟩ : ∃ mo, mf_revenueAfter_r μ 30 = mo := ⟨_, rfl⟩
  obtain ⟨tu, htu⟩ : ∃ tu, mf_ticksUntilActive_r μ 0 = tu := ⟨_, rfl⟩
  rw [hq] at F1 F5
  rw [hmo] at F4
  rw [htu] at F3
  obtain ⟨at', hat⟩ : ∃ at', mf_activeWithout_r μ 0 9 + mf_greatestNew_r μ 0 1 = at' := ⟨_, rfl⟩
  rw [hat] at F2
  have h30 : (30 : Int32).toInt = 30 := rfl
  obtain ⟨u, hu⟩ : ∃ u, T.1 = u := ⟨_, rfl⟩
  have hux := hS.2.2.2.2.2.2
  have E112 : ∀ (T3 : pr_T) (I3 τ3 : pr_I) (L3 : pr_L) (nv : Int32) (ψ : pr_I), lSt x T3 → lMm x I3 σ τ3 φ ι → wI τ3 → WX ψ μ → pr_W T3 u → T3.2.2 (x + 243) 1 = some u → hW I3 u ψ → pr_G g X mL_foresees.2.2.1 (pr_MQ g X (fun v9 _ _ _ => v9 = some (.int 1)) pr_no 121 5815) 121 5815 112 [.ref x, .long (wh σ (rqn σ)), .null, .int q, .long mo, .null, .int at', .int nv, .int (σ 0 7)] [] T3 I3 L3 := by
    intro T3 I3 τ3 L3 nv ψ hS3 hM3 ht3 hψ hWu hTu hIu
    obtain ⟨r1, r2⟩ := F4 σ hx
    refine pr_aload_n hA dL_foresees_112 rfl ?_
    refine pr_bipush hA ((30 : Int32)) dL_foresees_113 (by decide) ?_
    refine pr_callVi hA [.int ((30 : Int32))] (o_advance (pr_hl hA) hS3 hM3.1 hx.w (i := 30) (by decide) (by decide)) v_L_88 hS3.k (by decide) rfl rfl rfl (by decide) (by omega) (by omega) rfl (Nat.le_of_ble_eq_true rfl) dL_foresees_115 ?_
    refine pr_pop hA dL_foresees_118 rfl ?_
    obtain ⟨I4, σ4, e4, hM4, hw4, hr4, hIu4⟩ : ∃ J ω, ws_put I3 (x + 1) (fx_advance σ 30) = J ∧ lMm x J ω τ3 φ ι ∧ wI ω ∧ w_rev_r ω = mo ∧ hW J u ψ := ⟨_, _, rfl, hM3.w _, r1, r2, hIu.mv (fun a _ _ => ws_out (by omega))⟩
    rw [e4]
    refine pr_aload_n hA dL_foresees_119 rfl ?_
    refine pr_callVl hA [] (o_revenue (pr_hl hA) hS3 hM4.1 hw4) v_L_151 hS3.k (by decide) rfl rfl rfl (by decide) (by omega) (by omega) rfl (Nat.le_of_ble_eq_true rfl) dL_foresees_120 ?_
    refine pr_topL (z := mo) hr4 ?_
    refine pr_lload hA dL_foresees_123 rfl ?_
    refine pr_lcmp hA dL_foresees_125 ?_
    refine pr_topE (z := nI 0) (lc_self _) ?_
    refine pr_if_eq hA 131 dL_foresees_126 (by decide) (fun _ => ?_) (fun c_126 => absurd rfl c_126)
    refine pr_iload_n hA dL_foresees_131 rfl ?_
    have E179 : pr_G g X mL_foresees.2.2.1 (pr_MQ g X (fun v9 _ _ _ => v9 = some (.int 1)) pr_no 121 5815) 121 5815 179 [.ref x, .long (wh σ (rqn σ)), .null, .int q, .long mo, .null, .int at', .int nv, .int (σ 0 7)] [] T3 I4 L3 := by
      refine pr_iconst hA ((1 : Int32)) dL_foresees_179 (by decide) ?_
      exact pr_ireturn hA rfl rfl (by omega) (by omega) dL_foresees_180 rfl
    refine pr_if_le hA 179 dL_foresees_132 (by decide) (fun _ => E179) (fun c132 => ?_)
    refine pr_iload_n hA dL_foresees_135 rfl ?_
    refine pr_sipush hA ((1000 : Int32)) dL_foresees_136 (by decide) ?_
    refine pr_icmp_gt hA 179 dL_foresees_139 (by decide) (fun _ => E179) (fun c139 => ?_)
    have q0 := i_nle c132
    have q1 := i_nlt c139
    have hψ2 : WX (wcp σ4 ψ) μ := hψ.cp hw4
    obtain ⟨b1, b2, b3⟩ := F5 q0 q1 (wcp σ4 ψ) hψ2
    have hdu : u + 121 ≤ x + 1 ∨ x + 1 + 121 ≤ u := by omega
    refine pr_aload_n hA dL_foresees_142 rfl ?_
    refine pr_iconst hA (nI 1) dL_foresees_143 (by decide) ?_
    have hR := c_fx_restore (g := g) (L := L3) (I := I4) (σ := σ4) (τ := ψ) (k := 1) (pr_hl hA) hS3.2.1 hWu hdu hS3.1 hS3.2.2.2.1 (by decide) hTu hψ.w
    rw [hIu4, hM4.1] at hR
    refine pr_callVi hA [.int (nI 1)] hR v_L_185 hS3.k (by decide) rfl rfl rfl (by decide) (by omega) (by omega) rfl (Nat.le_of_ble_eq_true rfl) dL_foresees_144 ?_
    refine pr_pop hA dL_foresees_147 rfl ?_
    obtain ⟨I5, σ5, e5, hM5, hw5, n5, a1, a2, a3⟩ : ∃ J ω, ws_put I4 (x + 1) (wcp σ4 ψ) = J ∧ lMm x J ω τ3 φ ι ∧ wI ω ∧ ω 0 7 = σ 0 7 ∧ wI (fx_advance ω q) ∧ (fx_advance ω q) 0 7 = ω 0 7 + q ∧ fx_nextEvent_r (fx_advance ω q) = -1 := ⟨_, _, rfl, hM4.w _, hψ2.w, hψ2.now.trans hx.now.symm, b1, b2, b3⟩
    rw [e5]
    obtain ⟨L5, el5⟩ : ∃ K, l_cp L3 u (x + 1) = K := ⟨_, rfl⟩
    rw [el5]
    refine pr_aload_n hA dL_foresees_148 rfl ?_
    refine pr_iload_n hA dL_foresees_149 rfl ?_
    refine pr_callVi hA [.int q] (o_advance (pr_hl hA) hS3 hM5.1 hw5 (i := q) (i_pos q0) q1) v_L_88 hS3.k (by decide) rfl rfl rfl (by decide) (by omega) (by omega) rfl (Nat.le_of_ble_eq_true rfl) dL_foresees_150 ?_
    refine pr_pop hA dL_foresees_153 rfl ?_
    obtain ⟨I6, σ6, e6, hM6, hw6, n6, n7⟩ : ∃ J ω, ws_put I5 (x + 1) (fx_advance σ5 q) = J ∧ lMm x J ω τ3 φ ι ∧ wI ω ∧ ω 0 7 = σ5 0 7 + q ∧ fx_nextEvent_r ω = -1 := ⟨_, _, rfl, hM5.w _, a1, a2, a3⟩
    rw [e6]
    refine pr_aload_n hA dL_foresees_154 rfl ?_
    refine pr_callVi hA [] (o_time (pr_hl hA) hS3 hM6.1 hw6) v_L_113 hS3.k (by decide) rfl rfl rfl (by decide) (by omega) (by omega) rfl (Nat.le_of_ble_eq_true rfl) dL_foresees_155 ?_
    refine pr_topE (z := σ 0 7 + q) (n6.trans (congrArg (· + q) n5)) ?_
    refine pr_iload hA dL_foresees_158 rfl ?_
    refine pr_iload_n hA dL_foresees_160 rfl ?_
    refine pr_iadd hA dL_foresees_161 ?_
    refine pr_topE (z := σ 0 7 + q) rfl ?_
    refine pr_icmp_ne hA 177 dL_foresees_162 (by decide) (fun c_162 => absurd rfl c_162) (fun _ => ?_)
    refine pr_aload_n hA dL_foresees_165 rfl ?_
    refine pr_callVi hA [] (o_nextEvent (pr_hl hA) hS3 hM6.1 hw6) v_L_188 hS3.k (by decide) rfl rfl rfl (by decide) (by omega) (by omega) rfl (Nat.le_of_ble_eq_true rfl) dL_foresees_166 ?_
    refine pr_topE (z := -1) n7 ?_
    refine pr_iconst hA ((-1 : Int32)) dL_foresees_169 (by decide) ?_
    refine pr_icmp_ne hA 177 dL_foresees_170 (by decide) (fun c_170 => absurd rfl c_170) (fun _ => ?_)
    refine pr_iconst hA ((1 : Int32)) dL_foresees_173 (by decide) ?_
    refine pr_goto hA 178 dL_foresees_174 (by decide) ?_
    exact pr_ireturn hA rfl rfl (by omega) (by omega) dL_foresees_178 rfl
  have E52 : ∀ (I5 τ5 : pr_I) (L5 : pr_L) (nv : Int32), lMm x I5 σ τ5 φ ι → wI τ5 → (0 < nv → 0 < rqn σ ∧ nv ≤ 2000 ∧ mf_stateAfter_r μ 0 nv = 2 ∧ ¬ mf_stateAfter_r μ 0 (nv - 1) = 2) → pr_G g X mL_foresees.2.2.1 (pr_MQ g X (fun v9 _ _ _ => v9 = some (.int 1)) pr_no 121 5815) 0 0 52 [.ref x, .long (wh σ (rqn σ)), .null, .int q, .long mo, .null, .int at', .int nv, .null] [] T I5 L5 := by
    intro I5 τ5 L5 nv hM5 ht5 hnv
    refine pr_aload_n hA dL_foresees_52 rfl ?_
    refine pr_callSl hA [.ref x] (c_whole (pr_hl hA) hS hM5.1 hx.w) s_L_159 rfl (by decide) (by omega) (by omega) rfl (Nat.le_of_ble_eq_true rfl) dL_foresees_53 ?_
    refine pr_lload_n hA dL_foresees_56 rfl ?_
    refine pr_lcmp hA dL_foresees_57 ?_
    refine pr_topE (z := nI 0) (lc_self _) ?_
    refine pr_if_ne hA 72 dL_foresees_58 (by decide) (fun c_58 => absurd rfl c_58) (fun _ => ?_)
    refine pr_iload hA dL_foresees_61 rfl ?_
    refine pr_bipush hA ((-9 : Int32)) dL_foresees_63 (by decide) ?_
    refine pr_icmp_lt hA 72 dL_foresees_65 (by decide) (fun c_65 => absurd c_65 F2) (fun _ => ?_)
    refine pr_iload_n hA dL_foresees_68 rfl ?_
    refine pr_if_ge hA 74 dL_foresees_69 (by decide) (fun _ => ?_) (fun c_69 => absurd (i_nlt F1) c_69)
    refine pr_aload_n hA dL_foresees_74 rfl ?_
    refine pr_iconst hA (nI 1) dL_foresees_75 (by decide) ?_
    have hR := c_fx_save0 (g := g) (L := L5) (I := I5) (σ := σ) (k := 1) (pr_hl hA) hS.2.1 (by omega) hS.1 (by omega) (by omega) (by omega) (by omega) hS.2.2.2.1 (by decide) hn hx.w
    rw [hM5.1] at hR
    refine pr_callV hA rfl (As := [.int (nI 1)]) hR v_L_179 hS.k (by decide) rfl rfl rfl (by decide) (by omega) (by omega) rfl (Nat.le_of_ble_eq_true rfl) dL_foresees_76 (fun v9 T9 I9 L9 q9 => ?_) (fun _ _ _ _ q => q.elim)
    obtain ⟨rfl, rfl, rfl, rfl⟩ := q9
    obtain ⟨f0, f1, f2, f3, f4, f5⟩ := snT_f (T := T) (sn := x + 243) (k := 1) (by omega)
    have hfr : wI (snw I5 T.1) := wI_fresh (fun o ho => snw_0 ho)
    have e0 : ws_put (ws_put I5 (x + 1) σ) T.1 (wcp (snw (ws_put I5 (x + 1) σ) T.1) σ) = ws_put I5 u (wcp (snw I5 T.1) σ) := by rw [hM5.1, hu]
    obtain ⟨T7, I7, ψ, e7, e8, hS7, hM7, hψ, hWu, hTu, hI7⟩ : ∃ T9 J ω, snT T (x + 243) 1 = T9 ∧ ws_put I5 u (wcp (snw I5 T.1) σ) = J ∧ lSt x T9 ∧ lMm x J σ τ5 φ ι ∧ WX ω μ ∧ pr_W T9 u ∧ T9.2.2 (x + 243) 1 = some u ∧ hW J u ω := ⟨_, _, _, rfl, rfl, hS.sn, hM5.up (fun a ha => ws_out (by omega)), hx.cp hfr, by rw [← hu]; exact f3, by rw [f4, hu], ws_put_put⟩
    rw [← hu] at e8
    rw [e7, e8]
    obtain ⟨L7, el7⟩ : ∃ K, l_cp (nwL L5 T.1) (x + 1) T.1 = K := ⟨_, rfl⟩
    rw [el7]
    refine pr_istore (ls' := [_, _, _, _, _, _, _, _, _]) hA dL_foresees_79 (by decide) rfl ?_
    refine pr_iload hA dL_foresees_81 rfl ?_
    refine pr_if_le hA 112 dL_foresees_83 (by decide) (fun _ => ?_) (fun c83 => ?_)
    · exact pr_widen (by omega) (by omega) (E112 T7 I7 τ5 L7 nv ψ hS7 hM7 ht5 hψ hWu hTu hI7)
    obtain ⟨g0, g1, g2, g3⟩ := hnv (i_nle c83)
    have z2 : (2000 : Int32).toInt = 2000 := rfl
    have z0 : (0 : Int32).toInt = 0 := rfl
    have g4 := i_m1 (i_nle c83) g1
    have g5 := i_lt_le (i_nle c83)
    have k0 := le_i.mp g5
    have k1 := le_i.mp g1
    have k2 := le_i.mp g4.1
    have k3 := le_i.mp g4.2
    rw [z0] at k0 k2
    rw [z2] at k1 k3
    obtain ⟨τ7, hM7, ht7⟩ : ∃ ω, lMm x I7 σ ω φ ι ∧ wI ω := ⟨_, hM7, ht5⟩
    refine pr_aload_n hA dL_foresees_86 rfl ?_
    refine pr_iconst hA (nI 0) dL_foresees_87 (by decide) ?_
    refine pr_iload hA dL_foresees_88 rfl ?_
    refine pr_callVi hA [.int (nI 0), .int nv] (o_stateAfter (pr_hl hA) hS7 hM7.1 hM7.2.1 hx.w ht7 (k := 0) (i := nv) g0 g5 g1) v_L_182 hS7.k (by decide) rfl rfl rfl (by decide) (by omega) (by omega) rfl (Nat.le_of_ble_eq_true rfl) dL_foresees_90 ?_
    refine pr_topE (z := mf_stateAfter_r μ 0 (nv)) (eq_stateAfter hx ht7 g0 k0 k1).1 ?_
    obtain ⟨I8, τ8, e8, hM8, ht8, hI8⟩ : ∃ J ω, ws_put I7 (x + 122) (fx_stateAfter τ7 σ 0 (nv)) = J ∧ lMm x J σ ω φ ι ∧ wI ω ∧ hW J u ψ := ⟨_, _, rfl, hM7.v _, (eq_stateAfter hx ht7 (k := 0) (z := nv) g0 k0 k1).2.2.2, (hI7).mv (fun a _ _ => ws_out (by omega))⟩
    obtain ⟨L8, el8⟩ : ∃ K, l_cp L7 (x + 1) (x + 122) = K := ⟨_, rfl⟩
    rw [e8, el8]
    refine pr_iconst hA ((2 : Int32)) dL_foresees_93 (by decide) ?_
    refine pr_icmp_ne hA 110 dL_foresees_94 (by decide) (fun c_94 => absurd g2 c_94) (fun _ => ?_)
    refine pr_aload_n hA dL_foresees_97 rfl ?_
    refine pr_iconst hA (nI 0) dL_foresees_98 (by decide) ?_
    refine pr_iload hA dL_foresees_99 rfl ?_
    refine pr_iconst hA ((1 : Int32)) dL_foresees_101 (by decide) ?_
    refine pr_isub hA dL_foresees_102 ?_
    refine pr_topE (z := nv - 1) rfl ?_
    refine pr_callVi hA [.int (nI 0), .int (nv - 1)] (o_stateAfter (pr_hl hA) hS7 hM8.1 hM8.2.1 hx.w ht8 (k := 0) (i := nv - 1) g0 g4.1 g4.2) v_L_182 hS7.k (by decide) rfl rfl rfl (by decide) (by omega) (by omega) rfl (Nat.le_of_ble_eq_true rfl) dL_foresees_103 ?_
    refine pr_topE (z := mf_stateAfter_r μ 0 (nv - 1)) (eq_stateAfter hx ht8 g0 k2 k3).1 ?_
    obtain ⟨I9, τ9, e9, hM9, ht9, hI9⟩ : ∃ J ω, ws_put I8 (x + 122) (fx_stateAfter τ8 σ 0 (nv - 1)) = J ∧ lMm x J σ ω φ ι ∧ wI ω ∧ hW J u ψ := ⟨_, _, rfl, hM8.v _, (eq_stateAfter hx ht8 (k := 0) (z := nv - 1) g0 k2 k3).2.2.2, (hI8).mv (fun a _ _ => ws_out (by omega))⟩
    obtain ⟨L9, el9⟩ : ∃ K, l_cp L8 (x + 1) (x + 122) = K := ⟨_, rfl⟩
    rw [e9, el9]
    refine pr_iconst hA ((2 : Int32)) dL_foresees_106 (by decide) ?_
    refine pr_icmp_ne hA 112 dL_foresees_107 (by decide) (fun _ => ?_) (fun c_107 => absurd c_107 g3)
    exact pr_widen (by omega) (by omega) (E112 T7 I9 τ9 L9 nv ψ hS7 hM9 ht9 hψ hWu hTu hI9)
  refine pr_aload_n hA dL_foresees_0 rfl ?_
  refine pr_callSl hA [.ref x] (c_whole (pr_hl hA) hS hM.1 hx.w) s_L_159 rfl (by decide) (by omega) (by omega) rfl (Nat.le_of_ble_eq_true rfl) dL_foresees_1 ?_
  refine pr_lstore_n (ls' := [_, _, _, _, _, _, _, _, _]) hA dL_foresees_4 (by decide) rfl ?_
  refine pr_aload_n hA dL_foresees_5 rfl ?_
  refine pr_callVi hA [] (o_ticksUntilQuiet (pr_hl hA) hS hM.1 hM.2.1 hx.w hτ ) v_L_163 hS.k (by decide) rfl rfl rfl (by decide) (by omega) (by omega) rfl (Nat.le_of_ble_eq_true rfl) dL_foresees_6 ?_
  refine pr_topE (z := q) ((eq_ticksUntilQuiet hx hτ).1.trans hq) ?_
  obtain ⟨I1, τ1, e1, hM1, ht1⟩ : ∃ J ω, ws_put I (x + 122) (fx_ticksUntilQuiet τ σ) = J ∧ lMm x J σ ω φ ι ∧ wI ω := ⟨_, _, rfl, hM.v _, (eq_ticksUntilQuiet hx hτ).2.2.2⟩
  obtain ⟨L1, el1⟩ : ∃ K, l_cp L (x + 1) (x + 122) = K := ⟨_, rfl⟩
  rw [e1, el1]
  refine pr_istore_n (ls' := [_, _, _, _, _, _, _, _, _]) hA dL_foresees_9 (by decide) rfl ?_
  refine pr_aload_n hA dL_foresees_10 rfl ?_
  refine pr_bipush hA ((30 : Int32)) dL_foresees_11 (by decide) ?_
  refine pr_callVl hA [.int ((30 : Int32))] (o_revenueAfter (pr_hl hA) hS hM1.1 hM1.2.1 hx.w ht1 (i := 30) (by decide) (by decide)) v_L_166 hS.k (by decide) rfl rfl rfl (by decide) (by omega) (by omega) rfl (Nat.le_of_ble_eq_true rfl) dL_foresees_13 ?_
  refine pr_topL (z := mo) ((eq_revenueAfter hx ht1 (by decide) (by decide)).1.trans hmo) ?_
  obtain ⟨I2, τ2, e2, hM2, ht2⟩ : ∃ J ω, ws_put I1 (x + 122) (fx_revenueAfter τ1 σ 30) = J ∧ lMm x J σ ω φ ι ∧ wI ω := ⟨_, _, rfl, hM1.v _, (eq_revenueAfter hx ht1 (z := 30) (by decide) (by decide)).2.2.2⟩
  obtain ⟨L2, el2⟩ : ∃ K, l_cp L1 (x + 1) (x + 122) = K := ⟨_, rfl⟩
  rw [e2, el2]
  refine pr_lstore (ls' := [_, _, _, _, _, _, _, _, _]) hA dL_foresees_16 (by decide) rfl ?_
  refine pr_aload_n hA dL_foresees_18 rfl ?_
  refine pr_iconst hA (nI 0) dL_foresees_19 (by decide) ?_
  refine pr_bipush hA ((9 : Int32)) dL_foresees_20 (by decide) ?_
  refine pr_callVi hA [.int (nI 0), .int ((9 : Int32))] (o_activeWithout (pr_hl hA) hS hM2.1 hM2.2.1 hx.w ht2 (k := 0) (i := 9) (by omega) (by decide) (by decide)) v_L_170 hS.k (by decide) rfl rfl rfl (by decide) (by omega) (by omega) rfl (Nat.le_of_ble_eq_true rfl) dL_foresees_22 ?_
  refine pr_topE (z := mf_activeWithout_r μ 0 9) (eq_activeWithout hx ht2 (k := 0) (by omega) (by decide) (by decide)).1 ?_
  obtain ⟨I3, τ3, e3, hM3, ht3⟩ : ∃ J ω, ws_put I2 (x + 122) (fx_activeWithout τ2 σ 0 9) = J ∧ lMm x J σ ω φ ι ∧ wI ω := ⟨_, _, rfl, hM2.v _, (eq_activeWithout hx ht2 (k := 0) (z := 9) (by omega) (by decide) (by decide)).2.2.2⟩
  obtain ⟨L3, el3⟩ : ∃ K, l_cp L2 (x + 1) (x + 122) = K := ⟨_, rfl⟩
  rw [e3, el3]
  refine pr_aload_n hA dL_foresees_25 rfl ?_
  refine pr_iconst hA (nI 0) dL_foresees_26 (by decide) ?_
  refine pr_iconst hA (nI 1) dL_foresees_27 (by decide) ?_
  refine pr_callVi hA [.int (nI 0), .int (nI 1)] (o_greatestNew (pr_hl hA) hS hM3.1 hM3.2.1 hx.w ht3 (k := 0) (c := 1) (by omega) (by omega) (by decide)) v_L_173 hS.k (by decide) rfl rfl rfl (by decide) (by omega) (by omega) rfl (Nat.le_of_ble_eq_true rfl) dL_foresees_28 ?_
  refine pr_topE (z := mf_greatestNew_r μ 0 1) (eq_greatestNew hx ht3 (s := 0) (t := 1) (by omega) (by omega) (by decide)).1 ?_
  obtain ⟨I4, τ4, e4, hM4, ht4⟩ : ∃ J ω, ws_put I3 (x + 122) (fx_greatestNew τ3 σ 0 1) = J ∧ lMm x J σ ω φ ι ∧ wI ω := ⟨_, _, rfl, hM3.v _, (eq_greatestNew hx ht3 (s := 0) (t := 1) (by omega) (by omega) (by decide)).2.2.2⟩
  obtain ⟨L4, el4⟩ : ∃ K, l_cp L3 (x + 1) (x + 122) = K := ⟨_, rfl⟩
  rw [e4, el4]
  refine pr_iadd hA dL_foresees_31 ?_
  refine pr_topE (z := at') hat ?_
  refine pr_istore (ls' := [_, _, _, _, _, _, _, _, _]) hA dL_foresees_32 (by decide) rfl ?_
  refine pr_aload_n hA dL_foresees_34 rfl ?_
  refine pr_callVi hA [] (o_requestCount (pr_hl hA) hS hM4.1 hx.w) v_L_69 hS.k (by decide) rfl rfl rfl (by decide) (by omega) (by omega) rfl (Nat.le_of_ble_eq_true rfl) dL_foresees_35 ?_
  refine pr_if_ne hA 45 dL_foresees_38 (by decide) (fun c38 => ?_) (fun c38 => ?_)
  · have g0 : 0 < rqn σ := by
      rcases Nat.eq_zero_or_pos (rqn σ) with z | z
      · exact absurd (by rw [z]; rfl) c38
      · exact z
    refine pr_aload_n hA dL_foresees_45 rfl ?_
    refine pr_iconst hA (nI 0) dL_foresees_46 (by decide) ?_
    refine pr_callVi hA [.int (nI 0)] (o_ticksUntilActive (pr_hl hA) hS hM4.1 hM4.2.1 hx.w ht4 (k := 0) g0) v_L_176 hS.k (by decide) rfl rfl rfl (by decide) (by omega) (by omega) rfl (Nat.le_of_ble_eq_true rfl) dL_foresees_47 ?_
    refine pr_topE (z := tu) ((eq_ticksUntilActive hx ht4 (k := 0) g0).1.trans htu) ?_
    obtain ⟨I5, τ5, e5, hM5, ht5⟩ : ∃ J ω, ws_put I4 (x + 122) (fx_ticksUntilActive τ4 σ 0) = J ∧ lMm x J σ ω φ ι ∧ wI ω := ⟨_, _, rfl, hM4.v _, (eq_ticksUntilActive hx ht4 (k := 0) g0).2.2.2⟩
    obtain ⟨L5, el5⟩ : ∃ K, l_cp L4 (x + 1) (x + 122) = K := ⟨_, rfl⟩
    rw [e5, el5]
    refine pr_istore (ls' := [_, _, _, _, _, _, _, _, _]) hA dL_foresees_50 (by decide) rfl ?_
    exact E52 I5 τ5 L5 tu hM5 ht5 (fun z => ⟨g0, F3 g0 z⟩)
  · refine pr_iconst hA ((-1 : Int32)) dL_foresees_41 (by decide) ?_
    refine pr_goto hA 50 dL_foresees_42 (by decide) ?_
    refine pr_istore (ls' := [_, _, _, _, _, _, _, _, _]) hA dL_foresees_50 (by decide) rfl ?_
    exact E52 I4 τ4 L4 (-1) hM4 ht4 (fun z => absurd z (by decide))
