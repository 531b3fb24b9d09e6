/-! THE LAW'S TEXT IS READ WHOLE -/
def lkR (g : pr_C) : Nat → List Nat
  | 0 => []
  | j + 1 => 59 :: (kwl 1 ++ ([32] ++ ([97 + lf g (8 - j)] ++ ([32] ++ ([97 + lt g (8 - j)] ++ ([32] ++ (jdec (lcell g (7 + 4 * (8 - j)) % 60) ++ ([32] ++ (jdec (lcell g (8 + 4 * (8 - j)) % 20) ++ ([32] ++ (jdec (1 + lcell g (8 + 4 * (8 - j)) % 4) ++ lkR g j))))))))))) 
def ndR (g : pr_C) : Nat → List Nat
  | 0 => lkR g 9
  | j + 1 => 59 :: (kwl 0 ++ ([32] ++ ([97 + (4 - j)] ++ ndR g j)))
def ltx (g : pr_C) : List Nat := kwl 2 ++ ([32] ++ (jdec (1 + lcell g 0 % 40) ++ (59 :: (kwl 3 ++ ([32] ++ (jdec (1 + lcell g 1 % 9) ++ (59 :: (kwl 4 ++ ([32] ++ (jdec (1 + lcell g 2 % 4) ++ (59 :: (kwl 5 ++ ([32] ++ (jdec (lcell g 3 % 101) ++ ndR g 5))))))))))))))
theorem lkR_eq (g : pr_C) : ∀ j, j ≤ 9 → llk g (9 - j) ++ lkR g j = llk g 9
  | 0, _ => List.append_nil _
  | j + 1, h => by
    have ih := lkR_eq g j (by omega)
    rw [← ih, show 9 - j = (8 - j) + 1 by omega, show 9 - (j + 1) = 8 - j by omega]
    show llk g (8 - j) ++ lkR g (j + 1) = (((((((((llk g (8 - j) ++ jlit 5) ++ [97 + lf g (8 - j)]) ++ [32]) ++ [97 + lt g (8 - j)]) ++ [32]) ++ jdec (lcell g (7 + 4 * (8 - j)) % 60)) ++ [32]) ++ jdec (lcell g (8 + 4 * (8 - j)) % 20)) ++ [32]) ++ jdec (1 + lcell g (8 + 4 * (8 - j)) % 4) ++ lkR g j
    simp only [List.append_assoc]
    rfl
theorem ndR_eq (g : pr_C) : ∀ j, j ≤ 5 → lnd g (5 - j) ++ ndR g j = llk g 9
  | 0, _ => lkR_eq g 9 (by decide)
  | j + 1, h => by
    have ih := ndR_eq g j (by omega)
    rw [← ih, show 5 - j = (4 - j) + 1 by omega, show 5 - (j + 1) = 4 - j by omega]
    show lnd g (4 - j) ++ ndR g (j + 1) = ((lnd g (4 - j) ++ jlit 4) ++ [97 + (4 - j)]) ++ ndR g j
    simp only [List.append_assoc]
    rfl
theorem ltx_eq (g : pr_C) : ltx g = llk g 9 := by
  rw [← ndR_eq g 5 (by decide)]
  show ltx g = lhd g ++ ndR g 5
  unfold lhd
  simp only [List.append_assoc, List.nil_append]
  rfl
section RDT
variable {φ τ : pr_I} {ν : Nat → Int64} {tx r : List Nat} {n l : Nat}
theorem ri_step {f k : Nat} (h : At φ tx (59 :: r)) (hk : k < 700) : At (in_semi (in_end φ)) tx r ∧ ri_rl (f + 1) k φ τ ν = ri_rl f (k + 1) (in_st (in_semi (in_end φ)) τ ν) (in_st_w τ (in_semi (in_end φ)) ν) (in_st_nu (in_semi (in_end φ)) τ ν) := by
  obtain ⟨e1, e2⟩ := h.end0
  refine ⟨e2.semi, ?_⟩
  rw [ri_rl, if_neg (fun z => by have := (nI_leI (by decide) (by omega)).mp z; omega), if_pos h.1, if_pos e1]
def Fin3 (z : pr_I × pr_I × (Nat → Int64)) : Prop := z.1 0 0 = 0 ∧ RW z.2.1 z.2.2 5 9
theorem lkR_hd (g : pr_C) (j : Nat) (P : Nat → Prop) (hP : P 59) : hdp P (lkR g j) := by
  cases j with
  | zero => exact hdp.nil
  | succ j => exact hdp.cons hP
theorem ndR_hd (g : pr_C) (j : Nat) (P : Nat → Prop) (hP : P 59) : hdp P (ndR g j) := by
  cases j with
  | zero => exact hdp.cons hP
  | succ j => exact hdp.cons hP
theorem rd_links (g : pr_C) : ∀ (j f k : Nat) (φ τ : pr_I) (ν : Nat → Int64), j ≤ 9 → At φ tx (lkR g j) → RW τ ν 5 (9 - j) → k + j < 700 → j < f → Fin3 (ri_rl f k φ τ ν)
  | 0, f, k, φ, τ, ν, _, h, w, hk, hf => by
    obtain ⟨f', rfl⟩ : ∃ f', f = f' + 1 := ⟨f - 1, by omega⟩
    obtain ⟨e1, e2⟩ := At.end1 h
    rw [ri_rl, if_neg (fun z => by have := (nI_leI (by decide) (by omega)).mp z; omega), if_pos h.1, if_neg (by rw [e1]; decide)]
    exact ⟨e2.1, w⟩
  | j + 1, f, k, φ, τ, ν, hj, h, w, hk, hf => by
    obtain ⟨f', rfl⟩ : ∃ f', f = f' + 1 := ⟨f - 1, by omega⟩
    obtain ⟨a1, a2⟩ := ri_step (f := f') (τ := τ) (ν := ν) h (show k < 700 by omega)
    have c1 := lcell_lt g (7 + 4 * (8 - j))
    have c2 := lcell_lt g (8 + 4 * (8 - j))
    have hft : lf g (8 - j) ≠ lt g (8 - j) := by
      have := lf_lt g (l := 8 - j)
      unfold lt
      split
      · rename_i q
        have e : lf g (8 - j) = 8 - j := if_pos q
        omega
      · omega
    obtain ⟨b1, b2⟩ := a1.link (n := 5) (l := 8 - j) (ν := ν) (τ := τ) (lf_lt g) (lt_lt g) hft (Nat.le_refl _) (by omega) (by omega) (by omega) (by omega) (by omega) (lkR_hd g j _ (by decide)) (by rw [show 8 - j = 9 - (j + 1) by omega]; exact w)
    rw [a2]
    exact rd_links g j f' (k + 1) _ _ _ (by omega) b1 (by rw [show 9 - j = 8 - j + 1 by omega]; exact b2) (by omega) (by omega)
theorem rd_nodes (g : pr_C) : ∀ (j f k : Nat) (φ τ : pr_I) (ν : Nat → Int64), j ≤ 5 → At φ tx (ndR g j) → RW τ ν (5 - j) 0 → k + j + 9 < 700 → j + 9 < f → Fin3 (ri_rl f k φ τ ν)
  | 0, f, k, φ, τ, ν, _, h, w, hk, hf => rd_links g 9 f k φ τ ν (by decide) h w (by omega) (by omega)
  | j + 1, f, k, φ, τ, ν, hj, h, w, hk, hf => by
    obtain ⟨f', rfl⟩ : ∃ f', f = f' + 1 := ⟨f - 1, by omega⟩
    obtain ⟨a1, a2⟩ := ri_step (f := f') (τ := τ) (ν := ν) h (show k < 700 by omega)
    obtain ⟨b1, b2⟩ := a1.node (n := 4 - j) (l := 0) (ν := ν) (τ := τ) (by omega) (ndR_hd g j _ (by decide)) (by rw [show 4 - j = 5 - (j + 1) by omega]; exact w)
    rw [a2]
    exact rd_nodes g j f' (k + 1) _ _ _ (by omega) b1 (by rw [show 5 - j = 4 - j + 1 by omega]; exact b2) (by omega) (by omega)
theorem RW.set (w : RW τ ν n l) {i : Nat} {v : Int32} : RW (pr_up τ 119 i v) ν n l := by
  obtain ⟨w1, w2, w3, w4, w5, w6, w7⟩ := w
  exact ⟨by rw [pr_upv (by decide)]; exact w1, by rw [pr_upv (by decide)]; exact w2, w3, by rw [pr_up_ne (by decide)]; exact w4, by rw [pr_upv (by decide)]; exact w5, by rw [pr_upv (by decide)]; exact w6, by rw [pr_upv (by decide)]; exact w7⟩
theorem rd_all (g : pr_C) (h : TXn φ (llk g 9) (llk g 9).length) (hx : ∀ x ∈ llk g 9, x < 128) : Fin3 (ri_R φ τ ν) := by
  have c0 := lcell_lt g 0
  have c1 := lcell_lt g 1
  have c2 := lcell_lt g 2
  have c3 := lcell_lt g 3
  obtain ⟨t1, t2, t3⟩ := h
  have hA : At (in_cl φ) (llk g 9) (ltx g) := by
    refine ⟨?_, ?_, t2, ?_, hx, 0, Nat.zero_le _, ?_, (ltx_eq g).symm⟩
    · unfold in_cl; rw [pr_upk (by decide), pr_upe]
    · unfold in_cl; rw [pr_upk (by decide), pr_upk (by decide), pr_upk (by decide)]; exact t1
    · unfold in_cl; rw [pr_up_ne (by decide), pr_up_ne (by decide), pr_up_ne (by decide)]; exact t3
    · unfold in_cl; rw [pr_upk (by decide), pr_upk (by decide), pr_upe]; rfl
  have w0 : RW (w_clear τ) ν 0 0 := by
    refine ⟨?_, ?_, fun j hj => absurd hj (Nat.not_lt_zero j), fun j hj => absurd hj (Nat.not_lt_zero j), ?_, ?_, ?_⟩
    · unfold w_clear; rw [pr_rwv (by decide), pr_upk (by decide), pr_upe]; rfl
    · unfold w_clear; rw [pr_rwv (by decide), pr_upv (by decide), pr_upv (by decide), pr_upv (by decide), pr_upv (by decide), pr_upk (by decide), pr_upe]; rfl
    · unfold w_clear; rw [pr_rwv (by decide), pr_upv (by decide), pr_upv (by decide), pr_upv (by decide), pr_upe]
    · unfold w_clear; rw [pr_rwv (by decide), pr_upv (by decide), pr_upv (by decide), pr_upe]
    · unfold w_clear; rw [pr_rwv (by decide), pr_upe]
  unfold ri_R
  rw [sl_eq]
  obtain ⟨a1, a2, a3⟩ := At.set (i := 0) (a := 1) (b := 500) (τ := w_clear τ) (ν := ν) hA (by decide) (by omega) (hdp.cons (by decide)) rfl rfl (by omega) (by omega) (by decide)
  rw [a2, a3]
  obtain ⟨s1, s2⟩ := ri_step (f := 700) (k := 0) (τ := pr_up (w_clear τ) 119 0 (nI (1 + lcell g 0 % 40))) (ν := ν) a1 (by decide)
  obtain ⟨b1, b2, b3⟩ := At.set (i := 1) (a := 1) (b := 100) (τ := pr_up (w_clear τ) 119 0 (nI (1 + lcell g 0 % 40))) (ν := ν) s1 (by decide) (by omega) (hdp.cons (by decide)) rfl rfl (by omega) (by omega) (by decide)
  rw [s2, b2, b3]
  obtain ⟨s3, s4⟩ := ri_step (f := 699) (k := 1) (τ := pr_up (pr_up (w_clear τ) 119 0 (nI (1 + lcell g 0 % 40))) 119 1 (nI (1 + lcell g 1 % 9))) (ν := ν) b1 (by decide)
  obtain ⟨d1, d2, d3⟩ := At.set (i := 2) (a := 1) (b := 9) (τ := pr_up (pr_up (w_clear τ) 119 0 (nI (1 + lcell g 0 % 40))) 119 1 (nI (1 + lcell g 1 % 9))) (ν := ν) s3 (by decide) (by omega) (hdp.cons (by decide)) rfl rfl (by omega) (by omega) (by decide)
  rw [s4, d2, d3]
  obtain ⟨s5, s6⟩ := ri_step (f := 698) (k := 2) (τ := pr_up (pr_up (pr_up (w_clear τ) 119 0 (nI (1 + lcell g 0 % 40))) 119 1 (nI (1 + lcell g 1 % 9))) 119 2 (nI (1 + lcell g 2 % 4))) (ν := ν) d1 (by decide)
  obtain ⟨e1, e2, e3⟩ := At.set (i := 3) (a := 0) (b := 100) (τ := pr_up (pr_up (pr_up (w_clear τ) 119 0 (nI (1 + lcell g 0 % 40))) 119 1 (nI (1 + lcell g 1 % 9))) 119 2 (nI (1 + lcell g 2 % 4))) (ν := ν) s5 (by decide) (by omega) (ndR_hd g 5 _ (by decide)) rfl rfl (by omega) (by omega) (by decide)
  rw [s6, e2, e3]
  exact rd_nodes g 5 698 3 _ _ _ (Nat.le_refl _) e1 (((w0.set.set).set).set) (by decide) (by decide)
/-- what is known of the loaded network -/
def NW9 (σ : pr_I) : Prop := σ 0 6 = nI 5 ∧ σ 1 8 = nI 9 ∧ ∀ i, i < 9 → (σ 4 i).toInt ≤ 999
/-- nothing has been asked for yet -/
def NW0 (σ : pr_I) : Prop := σ 9 8 = 0 ∧ σ 18 17 = 0 ∧ σ 0 7 = 0
theorem ld_all (g : pr_C) {ω : pr_I} (hI : in_I φ) (hV : wI τ) (h : TXn φ (llk g 9) (llk g 9).length) (hx : ∀ x ∈ llk g 9, x < 128) : fx_load_r φ τ ω ν = nI 9 ∧ NW9 (fx_load_w ω φ τ ν) ∧ NW0 (fx_load_w ω φ τ ν) := by
  obtain ⟨f1, w1, w2, w3, w4, w5, w6, w7⟩ := rd_all (φ := φ) (τ := τ) (ν := ν) g h hx
  have e0 : (in_ri φ τ ν) 0 0 = 0 := by unfold in_ri; rw [pr_upk (by decide)]; exact f1
  have w2' : (in_ri_w τ φ ν) 1 8 = nI 9 := w2
  have lk : lkn (in_ri_w τ φ ν) = 9 := by unfold lkn; rw [w2']; rfl
  have h4 : rqn (in_ri_w τ φ ν) ≤ 40 := wI_nr4 (wI_in_ri_w hI hV)
  have fr : ∀ n o, o < 9 → o ≠ 0 → (w_cp ω (in_ri_w τ φ ν) 9 n (rqn (in_ri_w τ φ ν))) o = lk_cp ω (in_ri_w τ φ ν) 9 o := fun n o h9 h0 => by
    unfold w_cp
    rw [pr_up_ne h0, pr_up_ne h0, pr_row_ne (by omega), fr_rq_cp (by simp only [List.mem_cons, List.not_mem_nil, or_false, forall_eq_or_imp, forall_eq]; omega) (by omega) h4, fr_tk_cp (by simp only [List.mem_cons, List.not_mem_nil, or_false, forall_eq_or_imp, forall_eq]; omega)]
  have e1 : ∀ n, (w_cp ω (in_ri_w τ φ ν) 9 n (rqn (in_ri_w τ φ ν))) 1 8 = nI 9 := fun n => by
    rw [fr n 1 (by decide) (by decide)]
    unfold lk_cp
    rw [pr_rwv (by decide), pr_rwv (by decide), pr_rwv (by decide), pr_rwv (by decide), pr_rwv (by decide), pr_rwv (by decide), pr_rwv (by decide), pr_upk (by decide), pr_upe]
  have tk : tkn (in_ri_w τ φ ν) = 0 := by unfold tkn; rw [show (in_ri_w τ φ ν) 9 8 = 0 from w5]; rfl
  have rq : rqn (in_ri_w τ φ ν) = 0 := by unfold rqn; rw [show (in_ri_w τ φ ν) 18 17 = 0 from w6]; rfl
  unfold fx_load_r fx_load_w NW9 NW0
  rw [if_pos e0, if_pos e0, lk]
  refine ⟨e1 _, ⟨?_, e1 _, fun i hi => ?_⟩, ?_, ?_, ?_⟩
  · unfold w_cp
    rw [pr_upk (by decide), pr_upe]; exact w1
  · rw [fr _ 4 (by decide) (by decide)]
    unfold lk_cp
    rw [pr_row_ne (by decide), pr_row_ne (by decide), pr_row_ne (by decide), pr_row_ne (by decide), pr_row_eq]
    show (if i < 9 then (in_ri_w τ φ ν) 4 i else _).toInt ≤ 999
    rw [if_pos hi]; exact w4 i hi
  · unfold w_cp
    rw [pr_upv (by decide), pr_upv (by decide), pr_rwv (by decide), fr_rq_cp (by decide) (by decide) h4, tk]
    unfold tk_cp
    rw [pr_rwv (by decide), pr_rwv (by decide), pr_rwv (by decide), pr_rwv (by decide), pr_rwv (by decide), pr_rwv (by decide), pr_rwv (by decide), pr_rwv (by decide), pr_upe]; rfl
  · unfold w_cp
    rw [pr_upv (by decide), pr_upv (by decide), pr_rwv (by decide), rq]
    exact congrFun (fr_rq_cp_it265 (fun m hm => by cases hm) (by decide) (Nat.zero_le 40)) 17
  · unfold w_cp
    rw [pr_upe]; exact w7
end RDT
