/-! THE LAW ITSELF, over what is kept (Inv) -/
noncomputable def allS (σ : pr_I) : Nat → Int32
  | 0 => 0
  | c + 1 => allS σ c + fx_inState_r σ c
def fa (g : pr_C) : Nat := lcell g 4 % 5
def fb (g : pr_C) : Nat := (lcell g 4 % 5 + 1 + lcell g 9 % 4) % 5
theorem fab (g : pr_C) : fa g ≠ fb g := by
  unfold fa fb
  have := Nat.mod_lt (lcell g 9) (show 0 < 4 by decide)
  omega
/-- what the walk asks of what is kept -/
def LM (g : pr_C) (Inv : Nat → pr_I → pr_I → Prop) : Prop :=
  (∀ (ι1 τ σ : pr_I) (ν : Nat → Int64), TXn ι1 (llk g 9) (llk g 9).length → in_I ι1 → (∀ x ∈ llk g 9, x < 128) → (∀ o, o < 119 → σ o = fun _ => 0) → (∀ j, j < 5 → σ 119 j = pr_sv 0 j) → wI τ → fx_load_r ι1 τ σ ν = nI 9 ∧ wI (fx_load_v τ ι1 σ ν) ∧ ∃ μ, Inv 0 (fx_load_w σ ι1 τ ν) μ) ∧
  (∀ (k : Nat) (σ μ σ' : pr_I), k < 18 → Inv k σ μ → StR σ σ' → ∃ μ', Inv (k + 1) σ' μ') ∧
  (∀ (k : Nat) (σ μ : pr_I), Inv k σ μ → WX σ μ ∧ μ 1 6 = nI 5 ∧ μ 1 7 = nI 9) ∧
  (∀ (σ μ : pr_I), Inv 18 σ μ → allS σ 8 = nI (rqn σ) ∧ ¬ fx_isSafe_r σ = 0) ∧
  (∀ (σ μ : pr_I) (r : Nat), Inv 18 σ μ → r < rqn σ → vp_in (σ 23 r) 8 ∧ IsR σ r) ∧
  (∀ (σ μ : pr_I) (l : Nat), Inv 18 σ μ → l < 9 → IsL σ l) ∧
  (∀ (σ μ : pr_I), Inv 18 σ μ → IsF σ μ (fa g) (fb g)) ∧
  (∀ (σ μ σ' : pr_I), Inv 18 σ μ → WX σ' μ → IsP σ' μ)
section LMS
variable {g : pr_C} {Inv : Nat → pr_I → pr_I → Prop}
theorem LM.m0 (h : LM g Inv) : ∀ (ι1 τ σ : pr_I) (ν : Nat → Int64), TXn ι1 (llk g 9) (llk g 9).length → in_I ι1 → (∀ x ∈ llk g 9, x < 128) → (∀ o, o < 119 → σ o = fun _ => 0) → (∀ j, j < 5 → σ 119 j = pr_sv 0 j) → wI τ → fx_load_r ι1 τ σ ν = nI 9 ∧ wI (fx_load_v τ ι1 σ ν) ∧ ∃ μ, Inv 0 (fx_load_w σ ι1 τ ν) μ := h.1
theorem LM.m1 (h : LM g Inv) : ∀ (k : Nat) (σ μ σ' : pr_I), k < 18 → Inv k σ μ → StR σ σ' → ∃ μ', Inv (k + 1) σ' μ' := h.2.1
theorem LM.m2 (h : LM g Inv) : ∀ (k : Nat) (σ μ : pr_I), Inv k σ μ → WX σ μ ∧ μ 1 6 = nI 5 ∧ μ 1 7 = nI 9 := h.2.2.1
theorem LM.m3 (h : LM g Inv) : ∀ (σ μ : pr_I), Inv 18 σ μ → allS σ 8 = nI (rqn σ) ∧ ¬ fx_isSafe_r σ = 0 := h.2.2.2.1
theorem LM.m4 (h : LM g Inv) : ∀ (σ μ : pr_I) (r : Nat), Inv 18 σ μ → r < rqn σ → vp_in (σ 23 r) 8 ∧ IsR σ r := h.2.2.2.2.1
theorem LM.m5 (h : LM g Inv) : ∀ (σ μ : pr_I) (l : Nat), Inv 18 σ μ → l < 9 → IsL σ l := h.2.2.2.2.2.1
theorem LM.m6 (h : LM g Inv) : ∀ (σ μ : pr_I), Inv 18 σ μ → IsF σ μ (fa g) (fb g) := h.2.2.2.2.2.2.1
theorem LM.m7 (h : LM g Inv) : ∀ (σ μ σ' : pr_I), Inv 18 σ μ → WX σ' μ → IsP σ' μ := h.2.2.2.2.2.2.2
end LMS
theorem WX.l9 {σ μ : pr_I} (h : WX σ μ) (e : μ 1 7 = nI 9) : lkn σ = 9 := by
  have a : σ 1 8 = μ 1 7 := h.1.1.cr.rc.g (j := 7) (by decide)
  unfold lkn
  rw [a, e]; rfl
theorem llk_1 (g : pr_C) : ∀ x ∈ llk g 9, 1 ≤ x := by
  have dd : ∀ v, v < 1000 → ∀ x ∈ jdec v, 1 ≤ x := by decide +kernel
  have lit : ∀ k, k < 6 → ∀ x ∈ jlit k, 1 ≤ x := by decide +kernel
  have ap : ∀ (a b : List Nat), (∀ x ∈ a, 1 ≤ x) → (∀ x ∈ b, 1 ≤ x) → ∀ x ∈ a ++ b, 1 ≤ x := fun a b h1 h2 x hx => (List.mem_append.mp hx).elim (h1 x) (h2 x)
  have sg : ∀ c : Nat, 1 ≤ c → ∀ x ∈ [c], 1 ≤ x := fun c h x hx => by rw [List.mem_singleton.mp hx]; exact h
  have c0 := lcell_lt g 0
  have c1 := lcell_lt g 1
  have c2 := lcell_lt g 2
  have c3 := lcell_lt g 3
  have h0 : ∀ x ∈ lhd g, 1 ≤ x := by
    unfold lhd
    exact ap _ _ (ap _ _ (ap _ _ (ap _ _ (ap _ _ (ap _ _ (ap _ _ (ap _ _ (fun x hx => by cases hx) (lit 0 (by decide))) (dd _ (by omega))) (lit 1 (by decide))) (dd _ (by omega))) (lit 2 (by decide))) (dd _ (by omega))) (lit 3 (by decide))) (dd _ (by omega))
  have h1 : ∀ k, ∀ x ∈ lnd g k, 1 ≤ x := by
    intro k
    induction k with
    | zero => exact h0
    | succ k ih => exact ap _ _ (ap _ _ ih (lit 4 (by decide))) (sg _ (by omega))
  have h2 : ∀ k, ∀ x ∈ llk g k, 1 ≤ x := by
    intro k
    induction k with
    | zero => exact h1 5
    | succ k ih =>
      have a1 := lcell_lt g (7 + 4 * k)
      have a2 := lcell_lt g (8 + 4 * k)
      exact ap _ _ (ap _ _ (ap _ _ (ap _ _ (ap _ _ (ap _ _ (ap _ _ (ap _ _ (ap _ _ ih (lit 5 (by decide))) (sg _ (by omega))) (sg _ (by decide))) (sg _ (by omega))) (sg _ (by decide))) (dd _ (by omega))) (sg _ (by decide))) (dd _ (by omega))) (sg _ (by decide)) |> fun h => ap _ _ h (dd _ (by omega))
  exact h2 9
theorem getD_of {tx : List Nat} {P : Nat → Prop} (h : ∀ x ∈ tx, P x) {j : Nat} (hj : j < tx.length) : P (tx.getD j 0) := by
  rw [List.getD_eq_getElem?_getD, List.getElem?_eq_getElem hj]
  exact h _ (List.getElem_mem hj)
theorem llk_p (g : pr_C) : 1 ≤ (llk g 9).length := by
  have e5 : (jlit 5).length = 6 := rfl
  unfold llk
  simp only [List.length_append]
  omega
set_option maxRecDepth 100000 in
set_option maxHeartbeats 400000 in
theorem lw_tail {g : pr_C} {X : pr_X} {Q : State → Prop} {T : pr_T} {I : pr_I} {L : pr_L} {Inv : Nat → pr_I → pr_I → Prop} (M : LM g Inv) {x : Nat} {σ τ φ ι μ : pr_I} (hA : pr_Am g X mLaw 13 600104 7301314) (hN : pr_scn g ≤ 260) (hS : lSt x T) (hM : lMm x I σ τ φ ι) (hτ : wI τ) (hφ : fl_I φ) (hn : T.2.2 (x + 243) 1 = none) (hv : Inv 18 σ μ) {cs sl : Nat} (hcs : cs + 121 ≤ 600104) (hsl : sl + 5815 ≤ 7301314)
    (fin : ∀ (ls : List Value) (T : pr_T) (I : pr_I) (L : pr_L), pr_G g X 4 Q 600104 7301314 185 ls [.int 1] T I L) : pr_G g X 4 Q cs sl 48 [.ref (pr_sa g 5), .ref x, .int (nI 18), .null] [] T I L := by
  obtain ⟨hx, h5, h7⟩ := M.m2 18 σ μ hv
  have h9 := hx.l9 h7
  have n5 := hx.n5 h5
  have hI := hx.w
  have h4 := wI_nr4 hI
  have hc4 := lcell_lt g 4
  have hc9 := lcell_lt g 9
  obtain ⟨s1, s2⟩ := M.m3 σ μ hv
  have lpD : ∀ (n l : Nat), 9 - l = n → l ≤ 9 → pr_G g X 4 Q cs sl 117 [.ref (pr_sa g 5), .ref x, .int (allS σ 8), .int (nI l)] [] T I L := by
    intro n
    induction n with
    | zero =>
      intro l hn9 hl
      have he : l = 9 := by omega
      subst he
      refine pr_iload_n hA dL_law_117 rfl ?_
      refine pr_bipush hA (nI 9) dL_law_118 (by decide) ?_
      refine pr_icmp_ge hA 139 dL_law_120 (by decide) (fun _ => ?_) (fun c_120 => absurd ((nI_leI (by decide) (by decide)).mpr (by decide)) c_120)
      refine pr_aload_n hA dL_law_139 rfl ?_
      refine pr_aload_n hA dL_law_140 rfl ?_
      refine pr_iconst hA (nI 4) dL_law_141 (by decide) ?_
      refine pr_callSi hA [.ref (pr_sa g 5), .int (nI (4))] (c_cell (pr_hl hA) hN (by omega)) s_L_40 rfl (by decide) (by omega) (by omega) rfl (Nat.le_of_ble_eq_true rfl) dL_law_142 ?_
      refine pr_iconst hA (nI 5) dL_law_145 (by decide) ?_
      refine pr_irem (z := nI (lcell g 4 % 5)) hA dL_law_146 (by decide) (jmod (by omega) (by decide)) ?_
      refine pr_aload_n hA dL_law_147 rfl ?_
      refine pr_iconst hA (nI 4) dL_law_148 (by decide) ?_
      refine pr_callSi hA [.ref (pr_sa g 5), .int (nI (4))] (c_cell (pr_hl hA) hN (by omega)) s_L_40 rfl (by decide) (by omega) (by omega) rfl (Nat.le_of_ble_eq_true rfl) dL_law_149 ?_
      refine pr_iconst hA (nI 5) dL_law_152 (by decide) ?_
      refine pr_irem (z := nI (lcell g 4 % 5)) hA dL_law_153 (by decide) (jmod (by omega) (by decide)) ?_
      refine pr_iconst hA (nI 1) dL_law_154 (by decide) ?_
      refine pr_iadd hA dL_law_155 ?_
      refine pr_topE (z := nI (lcell g 4 % 5 + 1)) (nI_add _ _) ?_
      refine pr_aload_n hA dL_law_156 rfl ?_
      refine pr_bipush hA (nI 9) dL_law_157 (by decide) ?_
      refine pr_callSi hA [.ref (pr_sa g 5), .int (nI (9))] (c_cell (pr_hl hA) hN (by omega)) s_L_40 rfl (by decide) (by omega) (by omega) rfl (Nat.le_of_ble_eq_true rfl) dL_law_159 ?_
      refine pr_iconst hA (nI 4) dL_law_162 (by decide) ?_
      refine pr_irem (z := nI (lcell g 9 % 4)) hA dL_law_163 (by decide) (jmod (by omega) (by decide)) ?_
      refine pr_iadd hA dL_law_164 ?_
      refine pr_topE (z := nI (lcell g 4 % 5 + 1 + lcell g 9 % 4)) (nI_add _ _) ?_
      refine pr_iconst hA (nI 5) dL_law_165 (by decide) ?_
      refine pr_irem (z := nI ((lcell g 4 % 5 + 1 + lcell g 9 % 4) % 5)) hA dL_law_166 (by decide) (jmod (by omega) (by decide)) ?_
      refine pr_callS hA rfl (As := [.ref x, .int (nI (fa g)), .int (nI (fb g))]) (c_isFlow (pr_hl hA) hS hM hφ hx h5 h9 (Nat.mod_lt _ (by decide)) (Nat.mod_lt _ (by decide)) (fab g) (M.m6 σ μ hv)) s_L_217 rfl (by decide) (by omega) (by omega) rfl (Nat.le_of_ble_eq_true rfl) dL_law_167 (fun v9 T9 I9 L9 q9 => ?_) (fun _ _ _ _ q => q.elim)
      obtain ⟨rfl, e7, e8, σ9, φ9, hx9, hφ9, hM9⟩ := q9; obtain rfl := e7.symm; obtain rfl := e8.symm
      refine pr_if_eq hA 184 dL_law_170 (by decide) (fun c_170 => absurd c_170 (by decide)) (fun _ => ?_)
      refine pr_aload_n hA dL_law_173 rfl ?_
      refine pr_callS hA rfl (As := [.ref x]) (c_foresees (pr_hl hA) hS hM9 hτ hx9 h5 (hx9.l9 h7) hn (M.m7 σ μ σ9 hv hx9)) s_L_221 rfl (by decide) (by omega) (by omega) rfl (Nat.le_of_ble_eq_true rfl) dL_law_174 (fun v9 T9 I8 L9 q9 => ?_) (fun _ _ _ _ q => q.elim)
      obtain rfl := q9
      refine pr_if_eq hA 184 dL_law_177 (by decide) (fun c_177 => absurd c_177 (by decide)) (fun _ => ?_)
      refine pr_iconst hA ((1 : Int32)) dL_law_180 (by decide) ?_
      refine pr_goto hA 185 dL_law_181 (by decide) ?_
      exact pr_widen (by omega) (by omega) (fin _ _ _ _)
    | succ n ih =>
      intro l hn9 hl
      refine pr_iload_n hA dL_law_117 rfl ?_
      refine pr_bipush hA (nI 9) dL_law_118 (by decide) ?_
      refine pr_icmp_ge hA 139 dL_law_120 (by decide) (fun c_120 => absurd c_120 (fun q9 => by have := (nI_leI (by omega) (by omega)).mp q9; omega)) (fun _ => ?_)
      refine pr_aload_n hA dL_law_123 rfl ?_
      refine pr_iload_n hA dL_law_124 rfl ?_
      refine pr_callSi hA [.ref x, .int (nI l)] (c_isLink (pr_hl hA) hS hM.1 hI (by omega) (M.m5 σ μ l hv (by omega))) s_L_214 rfl (by decide) (by omega) (by omega) rfl (Nat.le_of_ble_eq_true rfl) dL_law_125 ?_
      refine pr_if_ne hA 133 dL_law_128 (by decide) (fun _ => ?_) (fun c_128 => absurd c_128 (by decide))
      refine pr_iinc (ls' := [_, _, _, _]) hA (nI (l + 1)) dL_law_133 (by decide) rfl (nI_inc _) rfl ?_
      refine pr_goto hA 117 dL_law_136 (by decide) ?_
      exact ih (l + 1) (by omega) (by omega)
  have lpC : ∀ (n r : Nat), rqn σ - r = n → r ≤ rqn σ → pr_G g X 4 Q cs sl 91 [.ref (pr_sa g 5), .ref x, .int (allS σ 8), .int (nI r)] [] T I L := by
    intro n
    induction n with
    | zero =>
      intro r hn9 hr
      have he : r = rqn σ := by omega
      rw [he]
      refine pr_iload_n hA dL_law_91 rfl ?_
      refine pr_aload_n hA dL_law_92 rfl ?_
      refine pr_callVi hA [] (o_requestCount (pr_hl hA) hS hM.1 hI) v_L_69 hS.k (by decide) rfl rfl rfl (by decide) (by omega) (by omega) rfl (Nat.le_of_ble_eq_true rfl) dL_law_93 ?_
      refine pr_icmp_ge hA 115 dL_law_96 (by decide) (fun _ => ?_) (fun c_96 => absurd ((nI_leI (by omega) (by omega)).mpr (Nat.le_refl _)) c_96)
      refine pr_iconst hA (nI 0) dL_law_115 (by decide) ?_
      refine pr_istore_n (ls' := [_, _, _, _]) hA dL_law_116 (by decide) rfl ?_
      exact lpD 9 0 (by omega) (by omega)
    | succ n ih =>
      intro r hn9 hr
      have hr9 : r < rqn σ := by omega
      obtain ⟨f1, f2⟩ := M.m4 σ μ r hv hr9
      refine pr_iload_n hA dL_law_91 rfl ?_
      refine pr_aload_n hA dL_law_92 rfl ?_
      refine pr_callVi hA [] (o_requestCount (pr_hl hA) hS hM.1 hI) v_L_69 hS.k (by decide) rfl rfl rfl (by decide) (by omega) (by omega) rfl (Nat.le_of_ble_eq_true rfl) dL_law_93 ?_
      refine pr_icmp_ge hA 115 dL_law_96 (by decide) (fun c_96 => absurd c_96 (fun q9 => by have := (nI_leI (by omega) (by omega)).mp q9; omega)) (fun _ => ?_)
      refine pr_aload_n hA dL_law_99 rfl ?_
      refine pr_iload_n hA dL_law_100 rfl ?_
      refine pr_callSi hA [.ref x, .int (nI r)] (c_isRequest (pr_hl hA) hS hM.1 hI hr9 f1 f2) s_L_210 rfl (by decide) (by omega) (by omega) rfl (Nat.le_of_ble_eq_true rfl) dL_law_101 ?_
      refine pr_if_ne hA 109 dL_law_104 (by decide) (fun _ => ?_) (fun c_104 => absurd c_104 (by decide))
      refine pr_iinc (ls' := [_, _, _, _]) hA (nI (r + 1)) dL_law_109 (by decide) rfl (nI_inc _) rfl ?_
      refine pr_goto hA 91 dL_law_112 (by decide) ?_
      exact ih (r + 1) (by omega) (by omega)
  have lpB : ∀ (n c : Nat), 8 - c = n → c ≤ 8 → pr_G g X 4 Q cs sl 52 [.ref (pr_sa g 5), .ref x, .int (allS σ c), .int (nI c)] [] T I L := by
    intro n
    induction n with
    | zero =>
      intro c hn9 hc
      have he : c = 8 := by omega
      subst he
      refine pr_iload_n hA dL_law_52 rfl ?_
      refine pr_bipush hA (nI 7) dL_law_53 (by decide) ?_
      refine pr_icmp_gt hA 72 dL_law_55 (by decide) (fun _ => ?_) (fun c_55 => absurd ((nI_ltI (by decide) (by decide)).mpr (by decide)) c_55)
      refine pr_iload_n hA dL_law_72 rfl ?_
      refine pr_aload_n hA dL_law_73 rfl ?_
      refine pr_callVi hA [] (o_requestCount (pr_hl hA) hS hM.1 hI) v_L_69 hS.k (by decide) rfl rfl rfl (by decide) (by omega) (by omega) rfl (Nat.le_of_ble_eq_true rfl) dL_law_74 ?_
      refine pr_icmp_ne hA 87 dL_law_77 (by decide) (fun c_77 => absurd s1 c_77) (fun _ => ?_)
      refine pr_aload_n hA dL_law_80 rfl ?_
      refine pr_callVi hA [] (o_isSafe (pr_hl hA) hS hM.1 hI) v_L_206 hS.k (by decide) rfl rfl rfl (by decide) (by omega) (by omega) rfl (Nat.le_of_ble_eq_true rfl) dL_law_81 ?_
      refine pr_if_ne hA 89 dL_law_84 (by decide) (fun _ => ?_) (fun c_84 => absurd c_84 s2)
      refine pr_iconst hA (nI 0) dL_law_89 (by decide) ?_
      refine pr_istore_n (ls' := [_, _, _, _]) hA dL_law_90 (by decide) rfl ?_
      exact lpC (rqn σ) 0 (by omega) (Nat.zero_le _)
    | succ n ih =>
      intro c hn9 hc
      refine pr_iload_n hA dL_law_52 rfl ?_
      refine pr_bipush hA (nI 7) dL_law_53 (by decide) ?_
      refine pr_icmp_gt hA 72 dL_law_55 (by decide) (fun c_55 => absurd c_55 (fun q9 => by have := (nI_ltI (by omega) (by omega)).mp q9; omega)) (fun _ => ?_)
      refine pr_iload_n hA dL_law_58 rfl ?_
      refine pr_aload_n hA dL_law_59 rfl ?_
      refine pr_iload_n hA dL_law_60 rfl ?_
      refine pr_callVi hA [.int (nI c)] (o_inState (pr_hl hA) hS hM.1 hI (c := c) (by omega)) v_L_203 hS.k (by decide) rfl rfl rfl (by decide) (by omega) (by omega) rfl (Nat.le_of_ble_eq_true rfl) dL_law_61 ?_
      refine pr_topE (z := fx_inState_r σ c) rfl ?_
      refine pr_iadd hA dL_law_64 ?_
      refine pr_topE (z := allS σ (c + 1)) rfl ?_
      refine pr_istore_n (ls' := [_, _, _, _]) hA dL_law_65 (by decide) rfl ?_
      refine pr_iinc (ls' := [_, _, _, _]) hA (nI (c + 1)) dL_law_66 (by decide) rfl (nI_inc _) rfl ?_
      refine pr_goto hA 52 dL_law_69 (by decide) ?_
      exact ih (c + 1) (by omega) (by omega)
  refine pr_iconst hA (nI 0) dL_law_48 (by decide) ?_
  refine pr_istore_n (ls' := [_, _, _, _]) hA dL_law_49 (by decide) rfl ?_
  refine pr_iconst hA (nI 0) dL_law_50 (by decide) ?_
  refine pr_istore_n (ls' := [_, _, _, _]) hA dL_law_51 (by decide) rfl ?_
  exact lpB 8 0 (by omega) (by omega)
