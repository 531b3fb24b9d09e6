/-- equal but for two cells of row 1 -/
def AE (x y : Nat) (A B : pr_I) : Prop := ∀ o i, ¬ (o = 1 ∧ (i = x ∨ i = y)) → A o i = B o i
theorem AE.up {x y o k : Nat} {v : Int32} {A B : pr_I} (h : AE x y A B) : AE x y (pr_up A o k v) (pr_up B o k v) := fun o' i q => by
  unfold pr_up
  split
  · rfl
  · exact h o' i q
theorem AE.fin {x y k : Nat} {v w z : Int32} {A B : pr_I} (h : AE x y A B) : pr_up (pr_up (pr_up A 1 x v) 1 k w) 1 y z = pr_up (pr_up (pr_up B 1 x v) 1 k w) 1 y z := by
  funext o i
  unfold pr_up
  by_cases c1 : o = 1 ∧ i = y
  · rw [if_pos c1, if_pos c1]
  rw [if_neg c1, if_neg c1]
  by_cases c2 : o = 1 ∧ i = k
  · rw [if_pos c2, if_pos c2]
  rw [if_neg c2, if_neg c2]
  by_cases c3 : o = 1 ∧ i = x
  · rw [if_pos c3, if_pos c3]
  rw [if_neg c3, if_neg c3]
  exact h o i (fun q => by rcases q.2 with e | e; exact c3 ⟨q.1, e⟩; exact c1 ⟨q.1, e⟩)
theorem AE.fin2 {x y : Nat} {v z : Int32} {A B : pr_I} (h : AE x y A B) : pr_up (pr_up A 1 x v) 1 y z = pr_up (pr_up B 1 x v) 1 y z := by
  funext o i
  unfold pr_up
  by_cases c1 : o = 1 ∧ i = y
  · rw [if_pos c1, if_pos c1]
  rw [if_neg c1, if_neg c1]
  by_cases c3 : o = 1 ∧ i = x
  · rw [if_pos c3, if_pos c3]
  rw [if_neg c3, if_neg c3]
  exact h o i (fun q => by rcases q.2 with e | e; exact c3 ⟨q.1, e⟩; exact c1 ⟨q.1, e⟩)
theorem AE.at2 {x y r : Nat} {A B : pr_I} (h : AE x y A B) : ∀ k, AE x y (at2 A r k) (at2 B r k)
  | 0 => by
    show AE x y (pr_up A 1 (264 + 28 * r + 13) (A 0 17)) (pr_up B 1 (264 + 28 * r + 13) (B 0 17))
    rw [h 0 17 (fun q => absurd q.1 (by decide))]; exact h.up
  | k + 1 => by
    rw [at2_s, at2_s, h 10 k (fun q => absurd q.1 (by decide))]; exact (AE.at2 h k).up
theorem Wd.beg {σ μ μ1 : pr_I} (h : Wd σ μ1) {r : Nat} (hr : r < rqn σ) (hd : σ 25 r = σ 0 7) (hμ : ∀ j, j ≠ 264 + 28 * r + 4 → j ≠ 264 + 28 * r + 6 → μ1 1 j = μ 1 j) (hm : mI μ) : Wd (w_beg σ r) (m_at μ r) ∧ m_at_ok μ r := by
  have h4 := wI_nr4 h.cr.w
  have h24 := wI_nl24 h.cr.w
  have e0 : σ 19 r = μ 1 (264 + 28 * r + 0) := (h.cr.req hr (c := 0) (by decide)).trans (hμ _ (by omega) (by omega))
  have e1 : σ 20 r = μ 1 (264 + 28 * r + 1) := (h.cr.req hr (c := 1) (by decide)).trans (hμ _ (by omega) (by omega))
  have e9 : σ 28 r = μ 1 (264 + 28 * r + 9) := (h.cr.req hr (c := 9) (by decide)).trans (hμ _ (by omega) (by omega))
  have en : σ 0 7 = μ 1 0 := h.cr.now.trans (hμ _ (by omega) (by omega))
  have el : mln μ = lkn σ := by rw [← h.cr.ln]; unfold mln; rw [hμ 7 (by omega) (by omega)]
  have enn : mnn μ = ndn σ := by rw [← h.cr.nn]; unfold mnn; rw [hμ 6 (by omega) (by omega)]
  have B : BL σ μ (lkn σ) (ndn σ) := by
    obtain ⟨b1, b2, b3⟩ := h.bl
    refine ⟨b1, b2, fun k hk => ?_⟩
    obtain ⟨c1, c2, c3, c4, c5, c6⟩ := b3 k hk
    exact ⟨c1, c2, c3, c4.trans (hμ _ (by omega) (by omega)), c5.trans (hμ _ (by omega) (by omega)), c6.trans (hμ _ (by omega) (by omega))⟩
  have hu : HU (σ 1 7 &&& (σ 28 r ^^^ (-1))) (m_up_r μ (lkn σ) &&& (σ 28 r ^^^ (-1))) (lkn σ) := HU.up (fun k hk => (h.up k hk).trans (hμ _ (by omega) (by omega))) h24
  have rq := h.rq r hr
  obtain ⟨ok, F2⟩ := find2 B hu rq.1 rq.2.1 el enn
  have hs12 : vp_in (σ 19 r) 12 := vp_in_mono rq.1 B.2.1
  refine ⟨?_, ?_⟩
  · -- the labels' state on both sides
    have mM := mI_m_fi (t := σ 20 r) (u := m_up_r μ (lkn σ) &&& (σ 28 r ^^^ (-1))) hm hs12
    have wF := wI_find (s := σ 19 r) (t := σ 20 r) (u := σ 1 7 &&& (σ 28 r ^^^ (-1))) h24 h.cr.w
    have fF : ∀ o, o < 116 ∨ 118 < o → pt_find σ (lkn σ) (σ 19 r) (σ 20 r) (σ 1 7 &&& (σ 28 r ^^^ (-1))) o = σ o := fun o ho => fr_pt_find (by simp only [List.mem_cons, List.not_mem_nil, or_false, forall_eq_or_imp, forall_eq]; omega)
    have fM : m_fi μ (σ 19 r) (σ 20 r) (m_up_r μ (lkn σ) &&& (σ 28 r ^^^ (-1))) 1 = μ 1 := fr_m_fi (by decide)
    unfold m_at w_beg pt_len
    rw [at2_eq, ← e0, ← e1, ← e9, el, ← en]
    generalize hF : pt_find σ (lkn σ) (σ 19 r) (σ 20 r) (σ 1 7 &&& (σ 28 r ^^^ (-1))) = F at *
    generalize hM : m_fi μ (σ 19 r) (σ 20 r) (m_up_r μ (lkn σ) &&& (σ 28 r ^^^ (-1))) = M at *
    have mM1 : mI (pr_row M 1 (μ1 1)) := fun o k C q => by
      unfold pr_row
      by_cases c : o = 1
      · rw [if_pos c]; rw [c] at q; exact h.cr.m 1 k C q
      · rw [if_neg c]; exact mM o k C q
    have ae : AE (264 + 28 * r + 4) (264 + 28 * r + 6) (pr_row M 1 (μ1 1)) M := fun o i q => by
      unfold pr_row
      by_cases c : o = 1
      · rw [if_pos c, c, fM]
        exact hμ i (fun e => q ⟨c, Or.inl e⟩) (fun e => q ⟨c, Or.inr e⟩)
      · rw [if_neg c]
    have W1 : Wd F (pr_row M 1 (μ1 1)) := h.cong wF mM1 fF pr_row_eq
    have rF : r < rqn F := by unfold rqn; rw [fF 18 (by omega)]; exact hr
    rcases F2 with ⟨f1, f2, _⟩ | ⟨n, ls, n11, f1, f2, f3, f4, f5, f6⟩
    · rw [f1, f2, if_pos (show nI (nI 0).toNatClampNeg = 0 from rfl), if_pos rfl, ← ae.fin2]
      exact W1.use rF (nI_vin (k := 4) (by decide) (by decide)) (by decide)
    · have n0 : n ≠ 0 := fun z => rq.2.2.1 (f6.mp z)
      have cn0 : ¬ nI n = 0 := fun z => n0 ((nI_eq (b := 0) (by omega) (by decide)).mp z)
      rw [f1, f2, nI_clamp (by omega), if_neg cn0, if_neg (show ¬ (1 : Int32) = 0 by decide), f3, nI_clamp (by omega), ← (AE.at2 ae n).fin]
      have hf : ∀ k, vp_in (cp_row (F 117) (σ (35 + r)) n k) 24 := fun k => by
        unfold cp_row
        split
        · exact wF 117 k 24 rfl
        · exact h.cr.w (35 + r) k 24 (wB_p (by omega))
      have C1 := W1.cr.prow (r := r) (by omega) hf
      have q1 : r < rqn (pr_row F (35 + r) (cp_row (F 117) (σ (35 + r)) n)) := by
        unfold rqn; rw [pr_row_ne (show (18 : Nat) ≠ 35 + r by omega)]; exact rF
      have C2 := C1.ulen q1 (v := nI n) (nI_vin (by omega) (by decide))
      have C3 : ∀ k, k ≤ n → Cr (pr_up (pr_row F (35 + r) (cp_row (F 117) (σ (35 + r)) n)) 32 r (nI n)) (at2 (pr_row M 1 (μ1 1)) r k) := by
        intro k
        induction k with
        | zero =>
          intro _
          show Cr _ (pr_up (pr_row M 1 (μ1 1)) 1 (264 + 28 * r + 13) (pr_row M 1 (μ1 1) 0 17))
          rw [pr_row_ne (show (0 : Nat) ≠ 1 by decide), f3]; exact C2
        | succ k ih =>
          intro hk
          rw [at2_s, pr_row_ne (show (10 : Nat) ≠ 1 by decide), (f4 k (by omega)).2.1]
          exact (ih (by omega)).mpath (by omega) (by omega) (nI_vin (by have := (f4 k (by omega)).2.2; omega) (by decide))
      have q2 : r < rqn (pr_up (pr_row F (35 + r) (cp_row (F 117) (σ (35 + r)) n)) 32 r (nI n)) := by rw [(cnt_up (by omega)).2.1]; exact q1
      have C4 := (C3 n (Nat.le_refl _)).ureq (c := 4) (v := 0) q2 (by decide) (by decide)
      have q3 : r < rqn (pr_up (pr_up (pr_row F (35 + r) (cp_row (F 117) (σ (35 + r)) n)) 32 r (nI n)) (19 + 4) r 0) := by rw [(cnt_up (by omega)).2.1]; exact q2
      have C5 := C4.upl (v := 0) q3 (nI_vin (k := 0) (by decide) (by decide))
      have q4 : r < rqn (pr_up (pr_up (pr_up (pr_row F (35 + r) (cp_row (F 117) (σ (35 + r)) n)) 32 r (nI n)) (19 + 4) r 0) 33 r 0) := by rw [(cnt_up (by omega)).2.1]; exact q3
      have C6 := C5.ureq (c := 6) (v := σ 0 7) q4 (by decide) (by decide)
      have c25 : pr_up (pr_up (pr_up (pr_row F (35 + r) (cp_row (F 117) (σ (35 + r)) n)) 32 r (nI n)) (19 + 4) r 0) 33 r 0 (19 + 6) r = σ 0 7 := by
        rw [pr_upv (by omega), pr_upv (by omega), pr_upv (by omega), pr_row_ne (by omega), fF 25 (by omega)]; exact hd
      rw [pr_up_id c25, pr_up_comm (show (19 + 4 : Nat) ≠ 33 by decide), show (19 + 4 : Nat) = 23 from rfl] at C6
      clear C1 C2 C4 C5 q1 q2 q3 q4 c25 C3
      generalize hS : pr_up (pr_up (pr_up (pr_row F (35 + r) (cp_row (F 117) (σ (35 + r)) n)) 32 r (nI n)) 33 r 0) 23 r 0 = S at *
      have k : ∀ o, o ≠ 23 → o ≠ 32 → o ≠ 33 → o ≠ 35 + r → S o = F o := fun o a b c d => by
        rw [← hS, pr_up_ne (by omega), pr_up_ne c, pr_up_ne b, pr_row_ne d]
      have kk : ∀ o, o ≠ 23 → o ≠ 32 → o ≠ 33 → o ≠ 35 + r → o < 116 ∨ 118 < o → S o = σ o := fun o a b c d e => (k o a b c d).trans (fF o e)
      have s32 : ∀ r', S 32 r' = if r' = r then nI n else σ 32 r' := fun r' => by
        rw [← hS, pr_upv (by decide), pr_upv (by decide)]
        by_cases q : r' = r
        · rw [q, pr_upe, if_pos rfl]
        · rw [pr_upk q, if_neg q, pr_row_ne (by omega), fF 32 (by omega)]
      have s33 : ∀ r', S 33 r' = if r' = r then 0 else σ 33 r' := fun r' => by
        rw [← hS, pr_upv (by decide)]
        by_cases q : r' = r
        · rw [q, pr_upe, if_pos rfl]
        · rw [pr_upk q, pr_upv (by decide), if_neg q, pr_row_ne (by omega), fF 33 (by omega)]
      have s23 : ∀ r', S 23 r' = if r' = r then 0 else σ 23 r' := fun r' => by
        rw [← hS]
        by_cases q : r' = r
        · rw [q, if_pos rfl]; exact pr_upe
        · rw [pr_upk q, pr_upv (by decide), pr_upv (by decide), if_neg q, pr_row_ne (by omega), fF 23 (by omega)]
      have s35 : S (35 + r) = cp_row (F 117) (σ (35 + r)) n := by
        rw [← hS, pr_up_ne (by omega), pr_up_ne (by omega), pr_up_ne (by omega), pr_row_eq]
      have s35n : ∀ r', r' < 40 → r' ≠ r → S (35 + r') = σ (35 + r') := fun r' z q => kk _ (by omega) (by omega) (by omega) (by omega) (by omega)
      have s76 : ∀ r', r' < 40 → S (76 + r') = σ (76 + r') := fun r' z => kk _ (by omega) (by omega) (by omega) (by omega) (by omega)
      have nN : ∀ j, j ≠ 264 + 28 * r + 4 → j ≠ 264 + 28 * r + 6 → j ≠ 264 + 28 * r + 13 → j ≠ 264 + 28 * r + 14 → (∀ p, p < n → j ≠ 264 + 28 * r + (15 + p)) → pr_up (pr_up (pr_up (at2 (pr_row M 1 (μ1 1)) r n) 1 (264 + 28 * r + 4) 0) 1 (264 + 28 * r + 14) 0) 1 (264 + 28 * r + 6) (σ 0 7) 1 j = μ1 1 j := fun j a b c d e => by
        rw [pr_upk b, pr_upk d, pr_upk a, at2_ne c n e, pr_row_eq]
      have nP : ∀ p, p < n → pr_up (pr_up (pr_up (at2 (pr_row M 1 (μ1 1)) r n) 1 (264 + 28 * r + 4) 0) 1 (264 + 28 * r + 14) 0) 1 (264 + 28 * r + 6) (σ 0 7) 1 (264 + 28 * r + (15 + p)) = nI (ls p) := fun p hp => by
        rw [pr_upk (by omega), pr_upk (by omega), pr_upk (by omega), at2_p n p hp, pr_row_ne (by decide), (f4 p hp).2.1]
      have nl : lkn S = lkn σ := by unfold lkn; rw [kk 1 (by decide) (by decide) (by decide) (by omega) (by omega)]
      have nr : rqn S = rqn σ := by unfold rqn; rw [kk 18 (by decide) (by decide) (by decide) (by omega) (by omega)]
      have k1 : ∀ o, o < 23 → S o = σ o := fun o ho => kk o (by omega) (by omega) (by omega) (by omega) (by omega)
      refine ⟨C6, fun i hi => ?_, fun r' p hr' hp => ?_, h.lk.of (by rw [k1 0 (by omega)]) (by rw [k1 1 (by omega)]) (k1 2 (by omega)) (k1 3 (by omega)) (k1 4 (by omega)) (k1 5 (by omega)) (k1 6 (by omega)), h.rq.of (by rw [k1 0 (by omega)]) (by rw [k1 18 (by omega)]) (k1 19 (by omega)) (k1 20 (by omega)) (k1 21 (by omega)) (k1 22 (by omega)), h.se.of (kk 119 (by omega) (by omega) (by omega) (by omega) (by omega)), h.ti.of (by rw [k1 0 (by omega)]), fun r' hr' => ?_⟩
      · rw [nl] at hi
        rw [nN _ (by omega) (by omega) (by omega) (by omega) (fun p hp => by omega)]
        unfold lk_up; rw [k1 1 (by omega)]
        exact h.up i hi
      · rw [nr] at hr'
        rw [s32] at hp
        by_cases q : r' = r
        · rw [if_pos q, nI_clamp (by omega)] at hp
          rw [q, nP p hp, s35, nl]
          unfold cp_row
          rw [if_pos hp, (f4 p hp).1]
          exact ⟨rfl, nI_vin (f4 p hp).2.2 (by omega)⟩
        · rw [if_neg q] at hp
          have hp11 : p < 11 := by have := vp_in_lt (h.cr.w 32 r' 12 rfl); omega
          rw [s35n r' (by omega) q, nl, nN _ (by omega) (by omega) (by omega) (by omega) (fun p hp => by omega)]
          exact h.pa r' p hr' hp
      · rw [nr] at hr'
        by_cases q : r' = r
        · rw [q]
          unfold Sr
          rw [s23, if_pos rfl]
          refine ⟨nI_vin (k := 0) (by decide) (by decide), fun _ => ?_, fun z => absurd (Or.inl rfl) z, fun z => absurd z (by decide)⟩
          unfold Pt
          rw [s32, s33, if_pos rfl, if_pos rfl, nI_clamp (by omega), s35]
          refine ⟨Nat.zero_le _, by omega, fun p p' h1 h2 e => ?_, fun p hp => absurd hp (Nat.not_lt_zero _)⟩
          unfold cp_row at e
          rw [if_pos (by omega), if_pos h2, (f4 p (by omega)).1, (f4 p' h2).1] at e
          have l1 := (f4 p (by omega)).2.2
          have l2 := (f4 p' h2).2.2
          exact f5 p p' h1 h2 ((nI_eq (by omega) (by omega)).mp e)
        · exact (h.sr hr').of2 (k1 9 (by omega)) (k1 10 (by omega)) (k1 11 (by omega)) (by rw [s32, if_neg q]) (by rw [s33, if_neg q]) (s35n r' (by omega) q) (s76 r' (by omega)) (by rw [s23, if_neg q]) (by rw [kk 25 (by decide) (by decide) (by decide) (by omega) (by omega)])
  · show m_fi_ok μ (μ 1 (264 + 28 * r + 0)) (μ 1 (264 + 28 * r + 1)) ((m_up_r μ (mln μ)) &&& ((μ 1 (264 + 28 * r + 9)) ^^^ ((-1) : Int32)))
    rw [← e0, ← e1, ← e9, el]; exact ok
