/-! THE LAW'S isFlow() -/
theorem ni_lt {a b : Int32} (h : a ≤ b) : ¬ b < a := fun z => by rw [le_i] at h; rw [lt_i] at z; omega
theorem ni_le {a b : Int32} (h : a < b) : ¬ b ≤ a := fun z => by rw [lt_i] at h; rw [le_i] at z; omega
/-- the sum of what is available on the links of a set -/
def cutS (σ : pr_I) (C : Int32) : Nat → Int32
  | 0 => 0
  | l + 1 => cutS σ C l + (if (C >>> (nI l &&& 31)) &&& 1 = 1 then lk_av σ l else 0)
def IsF (σ μ : pr_I) (a b : Nat) : Prop :=
  cutS σ (mf_smallestCut_r μ a b) 9 = mf_greatestFlow_r μ a b ∧ mf_widest_r μ a b ≤ mf_greatestFlow_r μ a b ∧ (0 < mf_widest_r μ a b ↔ 0 < mf_greatestFlow_r μ a b) ∧ mf_disjointPaths_r μ a b 1 ≤ mf_greatestFlow_r μ a b ∧ (mf_widest_r μ a b).toInt ≤ 999 ∧
  (0 < mf_widest_r μ a b → mf_cheapest_r μ a b 0 ≤ mf_cheapest_r μ a b (mf_widest_r μ a b) ∧ mf_cheapest_r μ a b (mf_widest_r μ a b + 1) = -1 ∧ mf_neededHold_r μ a b (mf_widest_r μ a b) ≤ mf_roundTrip_r μ a b (mf_widest_r μ a b)) ∧
  (0 ≤ mf_cheapest_r μ a b 1 ↔ (mf_reachable_r μ a 1 >>> (nI b &&& 31)) &&& 1 = 1)
theorem WX.fp {σ μ : pr_I} (h : WX σ μ) {s t : Nat} {u : Int32} : WX (fx_fp σ s t u) μ := by
  have f : ∀ o, o < 116 ∨ 118 < o → fx_fp σ s t u o = σ o := fun o ho => fr_pt_find (by simp only [List.mem_cons, List.not_mem_nil, or_false, forall_eq_or_imp, forall_eq]; omega)
  refine ⟨⟨h.1.1.cong (wI_find (wI_nl24 h.1.1.cr.w) h.1.1.cr.w) h.1.1.cr.m f rfl, h.1.2.cong (fun o ho => f o ?_)⟩, h.2.1.cong (fun o ho => f o ?_), by rw [f 0 (by decide)]; exact h.2.2⟩
  · simp only [List.mem_cons, List.not_mem_nil, or_false] at ho; omega
  · simp only [List.mem_cons, List.not_mem_nil, or_false] at ho; omega
theorem WX.w {σ μ : pr_I} (h : WX σ μ) : wI σ := h.1.1.cr.w
theorem WX.n5 {σ μ : pr_I} (h : WX σ μ) (e : μ 1 6 = nI 5) : ndn σ = 5 := by
  have a : σ 0 6 = μ 1 6 := h.1.1.cr.rc.g (j := 6) (by decide)
  unfold ndn
  rw [a, e]; rfl
theorem wI_L12 {σ : pr_I} (h : wI σ) : ∀ k, k < lkn σ → vp_in (σ 2 k) 12 ∧ vp_in (σ 3 k) 12 := fun k _ => ⟨h 2 k 12 rfl, h 3 k 12 rfl⟩
def lFl (x : Nat) (τ ι μ : pr_I) (T : pr_T) (L : pr_L) : Option Value → pr_T → pr_I → pr_L → Prop := fun v' T' I' L' => v' = some (.int 1) ∧ T' = T ∧ L' = L ∧ ∃ σ' φ', WX σ' μ ∧ fl_I φ' ∧ lMm x I' σ' τ φ' ι
set_option maxRecDepth 100000 in
set_option maxHeartbeats 400000 in
theorem c_isFlow {g : pr_C} {l : Launch} (hl : l.stackTraces = false) {T : pr_T} {I : pr_I} {L : pr_L} {x a b : Nat} {σ τ φ ι μ : pr_I} (hS : lSt x T) (hM : lMm x I σ τ φ ι) (hφ : fl_I φ) (hx : WX σ μ) (h5 : μ 1 6 = nI 5) (h9 : lkn σ = 9) (ha : a < 5) (hb : b < 5) (hab : a ≠ b) (F : IsF σ μ a b) : pr_M g l 12 0 0 mL_isFlow [.ref x, .int (nI a), .int (nI b)] T I L (lFl x τ ι μ T L) pr_no := by
  refine pr_ofG (by decide) rfl hl (Nat.le_of_ble_eq_true rfl) (fun X hA hX hXn hXt => ?_)
  subst hX
  show pr_G g X mL_isFlow.2.2.1 _ 0 0 0 [.ref x, .int (nI a), .int (nI b), .null, .null, .null, .null, .null] [] T I L
  obtain ⟨F1, F2, F3, F4, F5, F6, F7⟩ := F
  have nn := hx.n5 h5
  obtain ⟨fl, hfl⟩ : ∃ fl, mf_greatestFlow_r μ a b = fl := ⟨_, rfl⟩
  obtain ⟨ct, hct⟩ : ∃ ct, mf_smallestCut_r μ a b = ct := ⟨_, rfl⟩
  obtain ⟨wd, hwd⟩ : ∃ wd, mf_widest_r μ a b = wd := ⟨_, rfl⟩
  rw [hfl] at F1 F2 F3 F4
  rw [hct] at F1
  rw [hwd] at F2 F3 F5 F6
  have E : ∀ (I4 σ4 φ4 : pr_I), WX σ4 μ → fl_I φ4 → lMm x I4 σ4 τ φ4 ι → pr_G g X mL_isFlow.2.2.1 (pr_MQ g X (lFl x τ ι μ T L) pr_no 0 0) 0 0 190 [.ref x, .int (nI a), .int (nI b), .int fl, .int ct, .int (cutS σ ct 9), .int wd, .int (nI 1)] [] T I4 L := by
    intro I4 σ4 φ4 hx4 hφ4 hM4
    have nn4 := hx4.n5 h5
    refine pr_iload hA dL_isFlow_190 rfl ?_
    refine pr_if_eq hA 236 dL_isFlow_192 (by decide) (fun c_192 => absurd c_192 (by decide)) (fun _ => ?_)
    refine pr_aload_n hA dL_isFlow_195 rfl ?_
    refine pr_iload_n hA dL_isFlow_196 rfl ?_
    refine pr_iload_n hA dL_isFlow_197 rfl ?_
    refine pr_iconst hA ((1 : Int32)) dL_isFlow_198 (by decide) ?_
    refine pr_callVi hA [.int (nI a), .int (nI b), .int ((1 : Int32))] (o_cheapest (pr_hl hA) hS hM4.1 hx4.w (i := 1) (by omega) (by omega) hab (by decide) (by decide)) v_L_135 hS.k (by decide) rfl rfl rfl (by decide) (by omega) (by omega) rfl (Nat.le_of_ble_eq_true rfl) dL_isFlow_199 ?_
    refine pr_topE (z := mf_cheapest_r μ a b (1)) (eq_cheapest hx4.1 (by omega) (by omega) hab) ?_
    obtain ⟨I5, σ5, e5, hM5, hx5⟩ : ∃ J ω, ws_put I4 (x + 1) (fx_cheapest σ4 a b (1)) = J ∧ lMm x J ω τ φ4 ι ∧ WX ω μ := ⟨_, _, rfl, hM4.w _, hx4.fp⟩
    have nn5 := hx5.n5 h5
    rw [e5]
    refine pr_if_lt hA 209 dL_isFlow_202 (by decide) (fun c202 => ?_) (fun c202 => ?_)
    · refine pr_iconst hA (nI 0) dL_isFlow_209 (by decide) ?_
      refine pr_aload_n hA dL_isFlow_210 rfl ?_
      refine pr_iload_n hA dL_isFlow_211 rfl ?_
      refine pr_iconst hA ((1 : Int32)) dL_isFlow_212 (by decide) ?_
      refine pr_callVi hA [.int (nI a), .int ((1 : Int32))] (o_reachable (pr_hl hA) hS hM5.1 hx5.w (i := 1) (by omega) (by decide) (by decide)) v_L_144 hS.k (by decide) rfl rfl rfl (by decide) (by omega) (by omega) rfl (Nat.le_of_ble_eq_true rfl) dL_isFlow_213 ?_
      refine pr_topE (z := mf_reachable_r μ a 1) (eq_reachable hx5.1 (by omega)) ?_
      refine pr_iload_n hA dL_isFlow_216 rfl ?_
      refine pr_ishr hA dL_isFlow_217 ?_
      refine pr_iconst hA ((1 : Int32)) dL_isFlow_218 (by decide) ?_
      refine pr_iand hA dL_isFlow_219 ?_
      refine pr_iconst hA ((1 : Int32)) dL_isFlow_220 (by decide) ?_
      refine pr_icmp_ne hA 228 dL_isFlow_221 (by decide) (fun _ => ?_) (fun c_221 => absurd c_221 (fun z => ni_lt (F7.mpr z) c202))
      refine pr_iconst hA (nI 0) dL_isFlow_228 (by decide) ?_
      refine pr_icmp_ne hA 236 dL_isFlow_229 (by decide) (fun c_229 => absurd rfl c_229) (fun _ => ?_)
      refine pr_iconst hA ((1 : Int32)) dL_isFlow_232 (by decide) ?_
      refine pr_goto hA 237 dL_isFlow_233 (by decide) ?_
      exact pr_ireturn hA rfl rfl (Nat.zero_le _) (Nat.zero_le _) dL_isFlow_237 ⟨rfl, rfl, rfl, σ5, φ4, hx5, hφ4, hM5⟩
    · refine pr_iconst hA (nI 1) dL_isFlow_205 (by decide) ?_
      refine pr_goto hA 210 dL_isFlow_206 (by decide) ?_
      refine pr_aload_n hA dL_isFlow_210 rfl ?_
      refine pr_iload_n hA dL_isFlow_211 rfl ?_
      refine pr_iconst hA ((1 : Int32)) dL_isFlow_212 (by decide) ?_
      refine pr_callVi hA [.int (nI a), .int ((1 : Int32))] (o_reachable (pr_hl hA) hS hM5.1 hx5.w (i := 1) (by omega) (by decide) (by decide)) v_L_144 hS.k (by decide) rfl rfl rfl (by decide) (by omega) (by omega) rfl (Nat.le_of_ble_eq_true rfl) dL_isFlow_213 ?_
      refine pr_topE (z := mf_reachable_r μ a 1) (eq_reachable hx5.1 (by omega)) ?_
      refine pr_iload_n hA dL_isFlow_216 rfl ?_
      refine pr_ishr hA dL_isFlow_217 ?_
      refine pr_iconst hA ((1 : Int32)) dL_isFlow_218 (by decide) ?_
      refine pr_iand hA dL_isFlow_219 ?_
      refine pr_iconst hA ((1 : Int32)) dL_isFlow_220 (by decide) ?_
      refine pr_icmp_ne hA 228 dL_isFlow_221 (by decide) (fun c_221 => absurd (F7.mp (by rw [le_i]; rw [lt_i] at c202; have e : (0 : Int32).toInt = 0 := rfl; omega)) c_221) (fun _ => ?_)
      refine pr_iconst hA (nI 1) dL_isFlow_224 (by decide) ?_
      refine pr_goto hA 229 dL_isFlow_225 (by decide) ?_
      refine pr_icmp_ne hA 236 dL_isFlow_229 (by decide) (fun c_229 => absurd rfl c_229) (fun _ => ?_)
      refine pr_iconst hA ((1 : Int32)) dL_isFlow_232 (by decide) ?_
      refine pr_goto hA 237 dL_isFlow_233 (by decide) ?_
      exact pr_ireturn hA rfl rfl (Nat.zero_le _) (Nat.zero_le _) dL_isFlow_237 ⟨rfl, rfl, rfl, σ5, φ4, hx5, hφ4, hM5⟩
  refine pr_aload_n hA dL_isFlow_0 rfl ?_
  refine pr_iload_n hA dL_isFlow_1 rfl ?_
  refine pr_iload_n hA dL_isFlow_2 rfl ?_
  refine pr_callVi hA [.int (nI a), .int (nI b)] (o_greatestFlow (pr_hl hA) hS hM.1 hM.2.2.1 hx.w hφ (by omega) (by omega) hab) v_L_122 hS.k (by decide) rfl rfl rfl (by decide) (by omega) (by omega) rfl (Nat.le_of_ble_eq_true rfl) dL_isFlow_3 ?_
  refine pr_topE (z := fl) ((eq_greatestFlow (φ := φ) hx.1 hx.2.1 (by omega) (by omega) hab).1.trans hfl) ?_
  obtain ⟨I1, φ1, e1, hM1, hφ1⟩ : ∃ J ψ, rg_put I (x + 244) 5 (fx_greatestFlow φ σ a b) = J ∧ lMm x J σ τ ψ ι ∧ fl_I ψ := ⟨_, _, rfl, hM.f _, fl_I_fi (wI_nl24 hx.w) (wI_L12 hx.w) (nI_vin (k := a) (n := 12) (by omega) (by decide)) (hφ.keep (fr_fl_av (by decide)) (fr_fl_av (by decide)))⟩
  rw [e1]
  refine pr_istore_n (ls' := [_, _, _, _, _, _, _, _]) hA dL_isFlow_6 (by decide) rfl ?_
  refine pr_aload_n hA dL_isFlow_7 rfl ?_
  refine pr_iload_n hA dL_isFlow_8 rfl ?_
  refine pr_iload_n hA dL_isFlow_9 rfl ?_
  refine pr_callVi hA [.int (nI a), .int (nI b)] (o_smallestCut (pr_hl hA) hS hM1.1 hM1.2.2.1 hx.w hφ1 (by omega) (by omega) hab) v_L_125 hS.k (by decide) rfl rfl rfl (by decide) (by omega) (by omega) rfl (Nat.le_of_ble_eq_true rfl) dL_isFlow_10 ?_
  refine pr_topE (z := ct) ((eq_smallestCut (φ := φ1) hx.1 hx.2.1 (by omega) (by omega) hab).1.trans hct) ?_
  obtain ⟨I2, φ2, e2, hM2, hφ2⟩ : ∃ J ψ, rg_put I1 (x + 244) 5 (fx_smallestCut φ1 σ a b) = J ∧ lMm x J σ τ ψ ι ∧ fl_I ψ := ⟨_, _, rfl, hM1.f _, fl_I_fi (wI_nl24 hx.w) (wI_L12 hx.w) (nI_vin (k := a) (n := 12) (by omega) (by decide)) (hφ1.keep (fr_fl_av (by decide)) (fr_fl_av (by decide)))⟩
  rw [e2]
  refine pr_istore (ls' := [_, _, _, _, _, _, _, _]) hA dL_isFlow_13 (by decide) rfl ?_
  refine pr_iconst hA (nI 0) dL_isFlow_15 (by decide) ?_
  refine pr_istore (ls' := [_, _, _, _, _, _, _, _]) hA dL_isFlow_16 (by decide) rfl ?_
  refine pr_iconst hA (nI 0) dL_isFlow_18 (by decide) ?_
  refine pr_istore (ls' := [_, _, _, _, _, _, _, _]) hA dL_isFlow_19 (by decide) rfl ?_
  have lp : ∀ (n l : Nat), 9 - l = n → l ≤ 9 → pr_G g X mL_isFlow.2.2.1 (pr_MQ g X (lFl x τ ι μ T L) pr_no 0 0) 0 0 21 [.ref x, .int (nI a), .int (nI b), .int fl, .int ct, .int (cutS σ ct (l)), .int (nI (l)), .null] [] T I2 L := by
    intro n
    induction n with
    | zero =>
      intro l hn hl
      have he : l = 9 := by omega
      subst he
      refine pr_iload hA dL_isFlow_21 rfl ?_
      refine pr_bipush hA (nI 9) dL_isFlow_23 (by decide) ?_
      refine pr_icmp_ge hA 62 dL_isFlow_25 (by decide) (fun _ => ?_) (fun c_25 => absurd ((nI_leI (by decide) (by decide)).mpr (by decide)) c_25)
      refine pr_aload_n hA dL_isFlow_62 rfl ?_
      refine pr_iload_n hA dL_isFlow_63 rfl ?_
      refine pr_iload_n hA dL_isFlow_64 rfl ?_
      refine pr_callVi hA [.int (nI a), .int (nI b)] (o_widest (pr_hl hA) hS hM2.1 hx.w (by omega) (by omega) hab) v_L_128 hS.k (by decide) rfl rfl rfl (by decide) (by omega) (by omega) rfl (Nat.le_of_ble_eq_true rfl) dL_isFlow_65 ?_
      refine pr_topE (z := wd) ((eq_widest hx.1 (by omega) (by omega) hab).1.trans hwd) ?_
      refine pr_istore (ls' := [_, _, _, _, _, _, _, _]) hA dL_isFlow_68 (by decide) rfl ?_
      refine pr_iload_n hA dL_isFlow_70 rfl ?_
      refine pr_iload hA dL_isFlow_71 rfl ?_
      refine pr_icmp_ne hA 119 dL_isFlow_73 (by decide) (fun c_73 => absurd F1.symm c_73) (fun _ => ?_)
      refine pr_iload hA dL_isFlow_76 rfl ?_
      refine pr_iload_n hA dL_isFlow_78 rfl ?_
      refine pr_icmp_gt hA 119 dL_isFlow_79 (by decide) (fun c_79 => absurd c_79 (ni_lt F2)) (fun _ => ?_)
      by_cases c0 : 0 < wd
      · refine pr_iload hA dL_isFlow_82 rfl ?_
        refine pr_if_le hA 91 dL_isFlow_84 (by decide) (fun c_84 => absurd c_84 (ni_le c0)) (fun _ => ?_)
        refine pr_iconst hA (nI 1) dL_isFlow_87 (by decide) ?_
        refine pr_goto hA 92 dL_isFlow_88 (by decide) ?_
        refine pr_iload_n hA dL_isFlow_92 rfl ?_
        refine pr_if_le hA 100 dL_isFlow_93 (by decide) (fun c_93 => absurd c_93 (ni_le (F3.mp c0))) (fun _ => ?_)
        refine pr_iconst hA (nI 1) dL_isFlow_96 (by decide) ?_
        refine pr_goto hA 101 dL_isFlow_97 (by decide) ?_
        refine pr_icmp_ne hA 119 dL_isFlow_101 (by decide) (fun c_101 => absurd rfl c_101) (fun _ => ?_)
        refine pr_aload_n hA dL_isFlow_104 rfl ?_
        refine pr_iload_n hA dL_isFlow_105 rfl ?_
        refine pr_iload_n hA dL_isFlow_106 rfl ?_
        refine pr_iconst hA ((1 : Int32)) dL_isFlow_107 (by decide) ?_
        refine pr_callVi hA [.int (nI a), .int (nI b), .int ((1 : Int32))] (o_disjointPaths (pr_hl hA) hS hM2.1 hM2.2.2.1 hx.w hφ2 (by omega) (by omega) hab (i := 1) (by decide) (by decide)) v_L_131 hS.k (by decide) rfl rfl rfl (by decide) (by omega) (by omega) rfl (Nat.le_of_ble_eq_true rfl) dL_isFlow_108 ?_
        refine pr_topE (z := mf_disjointPaths_r μ a b 1) (eq_disjointPaths (φ := φ2) hx.1 (by omega) (by omega) hab).1 ?_
        obtain ⟨I3, φ3, e3, hM3, hφ3⟩ : ∃ J ψ, rg_put I2 (x + 244) 5 (fx_disjointPaths φ2 σ a b 1) = J ∧ lMm x J σ τ ψ ι ∧ fl_I ψ := ⟨_, _, rfl, hM2.f _, fl_I_fi (wI_nl24 hx.w) (wI_L12 hx.w) (nI_vin (k := a) (n := 12) (by omega) (by decide)) (hφ2.keep (fr_fl_one (by decide)) (fr_fl_one (by decide)))⟩
        rw [e3]
        refine pr_iload_n hA dL_isFlow_111 rfl ?_
        refine pr_icmp_gt hA 119 dL_isFlow_112 (by decide) (fun c_112 => absurd c_112 (ni_lt F4)) (fun _ => ?_)
        refine pr_iconst hA (nI 1) dL_isFlow_115 (by decide) ?_
        refine pr_goto hA 120 dL_isFlow_116 (by decide) ?_
        refine pr_istore (ls' := [_, _, _, _, _, _, _, _]) hA dL_isFlow_120 (by decide) rfl ?_
        refine pr_iload hA dL_isFlow_122 rfl ?_
        refine pr_if_le hA 190 dL_isFlow_124 (by decide) (fun c_124 => absurd c_124 (ni_le c0)) (fun _ => ?_)
        refine pr_iload hA dL_isFlow_127 rfl ?_
        refine pr_if_eq hA 187 dL_isFlow_129 (by decide) (fun c_129 => absurd c_129 (by decide)) (fun _ => ?_)
        obtain ⟨f1, f2, f3⟩ := F6 c0
        have w0 : 0 ≤ wd := by rw [lt_i] at c0; rw [le_i]; omega
        have w1 : wd ≤ 1000 := by rw [le_i]; have e : (1000 : Int32).toInt = 1000 := rfl; omega
        have z0 : (0 : Int32).toInt = 0 := rfl
        have z1 : (1 : Int32).toInt = 1 := rfl
        have c0' : 0 < wd.toInt := by rw [lt_i, z0] at c0; exact c0
        have w2 : (wd + 1).toInt = wd.toInt + 1 := i_add (a := wd) (b := 1) (by omega) (by omega)
        have w3 : 0 ≤ wd + 1 := by rw [le_i, w2]; omega
        have w4 : wd + 1 ≤ 1000 := by rw [le_i, w2]; have e : (1000 : Int32).toInt = 1000 := rfl; omega
        obtain ⟨I4, σ4, e4, hM4, hx4⟩ : ∃ J ω, I3 = J ∧ lMm x J ω τ φ3 ι ∧ WX ω μ := ⟨_, _, rfl, hM3, hx⟩
        have nn4 := hx4.n5 h5
        rw [e4]
        refine pr_aload_n hA dL_isFlow_132 rfl ?_
        refine pr_iload_n hA dL_isFlow_133 rfl ?_
        refine pr_iload_n hA dL_isFlow_134 rfl ?_
        refine pr_iload hA dL_isFlow_135 rfl ?_
        refine pr_callVi hA [.int (nI a), .int (nI b), .int wd] (o_cheapest (pr_hl hA) hS hM4.1 hx4.w (i := wd) (by omega) (by omega) hab w0 w1) v_L_135 hS.k (by decide) rfl rfl rfl (by decide) (by omega) (by omega) rfl (Nat.le_of_ble_eq_true rfl) dL_isFlow_137 ?_
        refine pr_topE (z := mf_cheapest_r μ a b (wd)) (eq_cheapest hx4.1 (by omega) (by omega) hab) ?_
        obtain ⟨I5, σ5, e5, hM5, hx5⟩ : ∃ J ω, ws_put I4 (x + 1) (fx_cheapest σ4 a b (wd)) = J ∧ lMm x J ω τ φ3 ι ∧ WX ω μ := ⟨_, _, rfl, hM4.w _, hx4.fp⟩
        have nn5 := hx5.n5 h5
        rw [e5]
        refine pr_aload_n hA dL_isFlow_140 rfl ?_
        refine pr_iload_n hA dL_isFlow_141 rfl ?_
        refine pr_iload_n hA dL_isFlow_142 rfl ?_
        refine pr_iconst hA ((0 : Int32)) dL_isFlow_143 (by decide) ?_
        refine pr_callVi hA [.int (nI a), .int (nI b), .int ((0 : Int32))] (o_cheapest (pr_hl hA) hS hM5.1 hx5.w (i := 0) (by omega) (by omega) hab (by decide) (by decide)) v_L_135 hS.k (by decide) rfl rfl rfl (by decide) (by omega) (by omega) rfl (Nat.le_of_ble_eq_true rfl) dL_isFlow_144 ?_
        refine pr_topE (z := mf_cheapest_r μ a b (0)) (eq_cheapest hx5.1 (by omega) (by omega) hab) ?_
        obtain ⟨I6, σ6, e6, hM6, hx6⟩ : ∃ J ω, ws_put I5 (x + 1) (fx_cheapest σ5 a b (0)) = J ∧ lMm x J ω τ φ3 ι ∧ WX ω μ := ⟨_, _, rfl, hM5.w _, hx5.fp⟩
        have nn6 := hx6.n5 h5
        rw [e6]
        refine pr_icmp_lt hA 187 dL_isFlow_147 (by decide) (fun c_147 => absurd c_147 (ni_lt f1)) (fun _ => ?_)
        refine pr_aload_n hA dL_isFlow_150 rfl ?_
        refine pr_iload_n hA dL_isFlow_151 rfl ?_
        refine pr_iload_n hA dL_isFlow_152 rfl ?_
        refine pr_iload hA dL_isFlow_153 rfl ?_
        refine pr_iconst hA ((1 : Int32)) dL_isFlow_155 (by decide) ?_
        refine pr_iadd hA dL_isFlow_156 ?_
        refine pr_topE (z := wd + 1) rfl ?_
        refine pr_callVi hA [.int (nI a), .int (nI b), .int (wd + 1)] (o_cheapest (pr_hl hA) hS hM6.1 hx6.w (i := wd + 1) (by omega) (by omega) hab w3 w4) v_L_135 hS.k (by decide) rfl rfl rfl (by decide) (by omega) (by omega) rfl (Nat.le_of_ble_eq_true rfl) dL_isFlow_157 ?_
        refine pr_topE (z := mf_cheapest_r μ a b (wd + 1)) (eq_cheapest hx6.1 (by omega) (by omega) hab) ?_
        obtain ⟨I7, σ7, e7, hM7, hx7⟩ : ∃ J ω, ws_put I6 (x + 1) (fx_cheapest σ6 a b (wd + 1)) = J ∧ lMm x J ω τ φ3 ι ∧ WX ω μ := ⟨_, _, rfl, hM6.w _, hx6.fp⟩
        have nn7 := hx7.n5 h5
        rw [e7]
        refine pr_iconst hA ((-1 : Int32)) dL_isFlow_160 (by decide) ?_
        refine pr_icmp_ne hA 187 dL_isFlow_161 (by decide) (fun c_161 => absurd f2 c_161) (fun _ => ?_)
        refine pr_aload_n hA dL_isFlow_164 rfl ?_
        refine pr_iload_n hA dL_isFlow_165 rfl ?_
        refine pr_iload_n hA dL_isFlow_166 rfl ?_
        refine pr_iload hA dL_isFlow_167 rfl ?_
        refine pr_callVi hA [.int (nI a), .int (nI b), .int wd] (o_neededHold (pr_hl hA) hS hM7.1 hx7.w (i := wd) (by omega) (by omega) hab w0 w1) v_L_138 hS.k (by decide) rfl rfl rfl (by decide) (by omega) (by omega) rfl (Nat.le_of_ble_eq_true rfl) dL_isFlow_169 ?_
        refine pr_topE (z := mf_neededHold_r μ a b (wd)) (eq_neededHold hx7.1 (by omega) (by omega) hab) ?_
        obtain ⟨I8, σ8, e8, hM8, hx8⟩ : ∃ J ω, ws_put I7 (x + 1) (fx_neededHold σ7 a b (wd)) = J ∧ lMm x J ω τ φ3 ι ∧ WX ω μ := ⟨_, _, rfl, hM7.w _, hx7.fp⟩
        have nn8 := hx8.n5 h5
        rw [e8]
        refine pr_aload_n hA dL_isFlow_172 rfl ?_
        refine pr_iload_n hA dL_isFlow_173 rfl ?_
        refine pr_iload_n hA dL_isFlow_174 rfl ?_
        refine pr_iload hA dL_isFlow_175 rfl ?_
        refine pr_callVi hA [.int (nI a), .int (nI b), .int wd] (o_roundTrip (pr_hl hA) hS hM8.1 hx8.w (i := wd) (by omega) (by omega) hab w0 w1) v_L_141 hS.k (by decide) rfl rfl rfl (by decide) (by omega) (by omega) rfl (Nat.le_of_ble_eq_true rfl) dL_isFlow_177 ?_
        refine pr_topE (z := mf_roundTrip_r μ a b (wd)) (eq_roundTrip hx8.1 (by omega) (by omega) hab) ?_
        obtain ⟨I9, σ9, e9, hM9, hx9⟩ : ∃ J ω, ws_put I8 (x + 1) (fx_roundTrip σ8 a b (wd)) = J ∧ lMm x J ω τ φ3 ι ∧ WX ω μ := ⟨_, _, rfl, hM8.w _, hx8.fp⟩
        have nn9 := hx9.n5 h5
        rw [e9]
        refine pr_icmp_gt hA 187 dL_isFlow_180 (by decide) (fun c_180 => absurd c_180 (ni_lt f3)) (fun _ => ?_)
        refine pr_iconst hA (nI 1) dL_isFlow_183 (by decide) ?_
        refine pr_goto hA 188 dL_isFlow_184 (by decide) ?_
        refine pr_istore (ls' := [_, _, _, _, _, _, _, _]) hA dL_isFlow_188 (by decide) rfl ?_
        exact E I9 σ9 φ3 hx9 hφ3 hM9
      · refine pr_iload hA dL_isFlow_82 rfl ?_
        refine pr_if_le hA 91 dL_isFlow_84 (by decide) (fun _ => ?_) (fun c_84 => absurd (by rw [le_i]; rw [lt_i] at c0; omega) c_84)
        refine pr_iconst hA (nI 0) dL_isFlow_91 (by decide) ?_
        refine pr_iload_n hA dL_isFlow_92 rfl ?_
        refine pr_if_le hA 100 dL_isFlow_93 (by decide) (fun _ => ?_) (fun c_93 => absurd (by rw [le_i]; rw [F3, lt_i] at c0; omega) c_93)
        refine pr_iconst hA (nI 0) dL_isFlow_100 (by decide) ?_
        refine pr_icmp_ne hA 119 dL_isFlow_101 (by decide) (fun c_101 => absurd rfl c_101) (fun _ => ?_)
        refine pr_aload_n hA dL_isFlow_104 rfl ?_
        refine pr_iload_n hA dL_isFlow_105 rfl ?_
        refine pr_iload_n hA dL_isFlow_106 rfl ?_
        refine pr_iconst hA ((1 : Int32)) dL_isFlow_107 (by decide) ?_
        refine pr_callVi hA [.int (nI a), .int (nI b), .int ((1 : Int32))] (o_disjointPaths (pr_hl hA) hS hM2.1 hM2.2.2.1 hx.w hφ2 (by omega) (by omega) hab (i := 1) (by decide) (by decide)) v_L_131 hS.k (by decide) rfl rfl rfl (by decide) (by omega) (by omega) rfl (Nat.le_of_ble_eq_true rfl) dL_isFlow_108 ?_
        refine pr_topE (z := mf_disjointPaths_r μ a b 1) (eq_disjointPaths (φ := φ2) hx.1 (by omega) (by omega) hab).1 ?_
        obtain ⟨I3, φ3, e3, hM3, hφ3⟩ : ∃ J ψ, rg_put I2 (x + 244) 5 (fx_disjointPaths φ2 σ a b 1) = J ∧ lMm x J σ τ ψ ι ∧ fl_I ψ := ⟨_, _, rfl, hM2.f _, fl_I_fi (wI_nl24 hx.w) (wI_L12 hx.w) (nI_vin (k := a) (n := 12) (by omega) (by decide)) (hφ2.keep (fr_fl_one (by decide)) (fr_fl_one (by decide)))⟩
        rw [e3]
        refine pr_iload_n hA dL_isFlow_111 rfl ?_
        refine pr_icmp_gt hA 119 dL_isFlow_112 (by decide) (fun c_112 => absurd c_112 (ni_lt F4)) (fun _ => ?_)
        refine pr_iconst hA (nI 1) dL_isFlow_115 (by decide) ?_
        refine pr_goto hA 120 dL_isFlow_116 (by decide) ?_
        refine pr_istore (ls' := [_, _, _, _, _, _, _, _]) hA dL_isFlow_120 (by decide) rfl ?_
        refine pr_iload hA dL_isFlow_122 rfl ?_
        refine pr_if_le hA 190 dL_isFlow_124 (by decide) (fun _ => ?_) (fun c_124 => absurd (by rw [le_i]; rw [lt_i] at c0; omega) c_124)
        exact E I3 σ φ3 hx hφ3 hM3
    | succ n ih =>
      intro l hn hl
      have hl9 : l < lkn σ := by omega
      refine pr_iload hA dL_isFlow_21 rfl ?_
      refine pr_bipush hA (nI 9) dL_isFlow_23 (by decide) ?_
      refine pr_icmp_ge hA 62 dL_isFlow_25 (by decide) (fun c_25 => absurd c_25 (fun q9 => by have := (nI_leI (by omega) (by omega)).mp q9; omega)) (fun _ => ?_)
      refine pr_iload hA dL_isFlow_28 rfl ?_
      refine pr_iload hA dL_isFlow_30 rfl ?_
      refine pr_iload hA dL_isFlow_32 rfl ?_
      refine pr_ishr hA dL_isFlow_34 ?_
      refine pr_iconst hA ((1 : Int32)) dL_isFlow_35 (by decide) ?_
      refine pr_iand hA dL_isFlow_36 ?_
      refine pr_iconst hA ((1 : Int32)) dL_isFlow_37 (by decide) ?_
      refine pr_icmp_ne hA 52 dL_isFlow_38 (by decide) (fun c38 => ?_) (fun c38 => ?_)
      · refine pr_iconst hA (nI 0) dL_isFlow_52 (by decide) ?_
        refine pr_iadd hA dL_isFlow_53 ?_
        refine pr_topE (z := cutS σ ct (l + 1)) (congrArg (cutS σ ct l + ·) (if_neg c38).symm) ?_
        refine pr_istore (ls' := [_, _, _, _, _, _, _, _]) hA dL_isFlow_54 (by decide) rfl ?_
        refine pr_iinc (ls' := [_, _, _, _, _, _, _, _]) hA (nI ((l) + 1)) dL_isFlow_56 (by decide) rfl (nI_inc _) rfl ?_
        refine pr_goto hA 21 dL_isFlow_59 (by decide) ?_
        exact ih (l + 1) (by omega) (by omega)
      · refine pr_aload_n hA dL_isFlow_41 rfl ?_
        refine pr_iload hA dL_isFlow_42 rfl ?_
        refine pr_bipush hA (nI 6) dL_isFlow_44 (by decide) ?_
        refine pr_callVi hA [.int (nI (l)), .int (nI 6)] (o_linkValue (pr_hl hA) hS hM2.1 hx.w hl9 (c := 6) (by decide)) v_L_110 hS.k (by decide) rfl rfl rfl (by decide) (by omega) (by omega) rfl (Nat.le_of_ble_eq_true rfl) dL_isFlow_46 ?_
        refine pr_topE (z := lk_av σ l) rfl ?_
        refine pr_goto hA 53 dL_isFlow_49 (by decide) ?_
        refine pr_iadd hA dL_isFlow_53 ?_
        refine pr_topE (z := cutS σ ct (l + 1)) (congrArg (cutS σ ct l + ·) (if_pos c38).symm) ?_
        refine pr_istore (ls' := [_, _, _, _, _, _, _, _]) hA dL_isFlow_54 (by decide) rfl ?_
        refine pr_iinc (ls' := [_, _, _, _, _, _, _, _]) hA (nI ((l) + 1)) dL_isFlow_56 (by decide) rfl (nI_inc _) rfl ?_
        refine pr_goto hA 21 dL_isFlow_59 (by decide) ?_
        exact ih (l + 1) (by omega) (by omega)
  exact lp 9 0 (by omega) (by omega)
