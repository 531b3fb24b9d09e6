/-! LINKS UP AND DOWN -/
theorem bit_xor {x y : Int32} {k : Nat} : bit (x ^^^ y) k = (bit x k).xor (bit y k) := by
  unfold bit; rw [Int32.toBitVec_xor, BitVec.getLsbD_xor]
theorem bit_m1 : ∀ k, k < 32 → bit (-1) k = true := by decide
theorem bit_off {x : Int32} {lk k : Nat} (hl : lk < 32) (hk : k < 32) : bit (x &&& ((1 <<< (nI lk &&& 31)) ^^^ (-1))) k = if k = lk then false else bit x k := by
  rw [bit_and, bit_xor, bit_m1 k hk, bit_shl hl hk, bit_1]
  by_cases q : k = lk
  · subst q; simp
  · rw [if_neg q]
    by_cases q1 : k < lk
    · simp [q1]
    · simp [show ¬ k - lk = 0 by omega]
theorem bit_on {x : Int32} {lk k : Nat} (hl : lk < 32) (hk : k < 32) : bit (x ||| (1 <<< (nI lk &&& 31))) k = if k = lk then true else bit x k := by
  rw [bit_or, bit_shl hl hk, bit_1]
  by_cases q : k = lk
  · subst q; simp
  · rw [if_neg q]
    by_cases q1 : k < lk
    · simp [q1]
    · simp [show ¬ k - lk = 0 by omega]
theorem cA_17 {j : Nat} : ¬ ((cA j).1 = 1 ∧ (cA j).2 = 7) := fun q => by
  have e : cA j = (1, 7) := Prod.ext q.1 q.2
  have := cB_cA j
  rw [e] at this
  have j7 : j = 7 := this.symm
  rw [j7] at e
  exact absurd e (by decide)
theorem Wd.upb {σ μ : pr_I} (h : Wd σ μ) {lk : Nat} {v b : Int32} (hl : lk < lkn σ) (hb : ∀ k, k < 32 → bit v k = if k = lk then (if b = 0 then false else true) else bit (σ 1 7) k) (hb01 : b = 0 ∨ b = 1) : Wd (pr_up σ 1 7 v) (pr_up μ 1 (96 + 7 * lk + 5) b) := by
  have h24 := wI_nl24 h.cr.w
  have h4 := wI_nr4 h.cr.w
  have k : ∀ o, o ≠ 1 → pr_up σ 1 7 v o = σ o := fun o a => pr_up_ne a
  have nl : lkn (pr_up σ 1 7 v) = lkn σ := by unfold lkn; rw [pr_upk (by decide)]
  have nr : rqn (pr_up σ 1 7 v) = rqn σ := rqn_c (k 18 (by decide))
  have nt : tkn (pr_up σ 1 7 v) = tkn σ := tkn_c (k 9 (by decide))
  have C : Cr (pr_up σ 1 7 v) (pr_up μ 1 (96 + 7 * lk + 5) b) := by
    refine ⟨wI.upn h.cr.w rfl, mI.upn h.cr.m ((mW_link (k := lk) (c := 5) (by omega) (by decide)).trans rfl), ?_, ?_, ?_, ?_⟩
    · rw [nl, nr, nt]
      intro j hj
      have e1 : pr_up σ 1 7 v (cA j).1 (cA j).2 = σ (cA j).1 (cA j).2 := if_neg cA_17
      have e2 : j ≠ 96 + 7 * lk + 5 := by
        rcases hj with a | ⟨i, c, a, b, b5, rfl⟩ | ⟨i, c, a, b, rfl⟩ | ⟨i, c, a, b, rfl⟩ <;> omega
      rw [e1, pr_upk e2]; exact h.cr.rc j hj
    · rw [nl, nr, nt, k 10 (by decide), k 11 (by decide)]; exact fun t => h.cr.tl
    · rw [nt, k 16 (by decide)]; exact fun t => h.cr.pc
    · rw [nl, nt, k 7 (by decide)]
      intro i hi
      rw [prom_congr (n := tkn σ) (μ := μ) _ (fun t _ c _ => pr_upk (by omega))]
      exact h.cr.pr hi
  have km : ∀ j, kp j → j ≠ 96 + 7 * lk + 5 → pr_up μ 1 (96 + 7 * lk + 5) b 1 j = μ 1 j := fun j _ hj => pr_upk hj
  refine ⟨C, fun i hi => ?_, fun r p hr hp => ?_, h.lk.of (by rw [k 0 (by decide)]) (pr_upk (by decide)) (k 2 (by decide)) (k 3 (by decide)) (k 4 (by decide)) (k 5 (by decide)) (k 6 (by decide)), h.rq.of (by rw [k 0 (by decide)]) (by rw [k 18 (by decide)]) (k 19 (by decide)) (k 20 (by decide)) (k 21 (by decide)) (k 22 (by decide)), h.se.of (k 119 (by decide)), h.ti.of (by rw [k 0 (by decide)]), fun r hr => ?_⟩
  · rw [nl] at hi
    have e := h.up i hi
    rw [lk_bit (by omega)] at e ⊢
    rw [pr_upe, hb i (by omega)]
    by_cases q : i = lk
    · rw [if_pos q, q, pr_upe]
      rcases hb01 with z | z
      · rw [if_pos z, z]; rfl
      · rw [z]; decide
    · rw [if_neg q, pr_upk (by omega)]; exact e
  · rw [nr] at hr
    rw [k 32 (by decide)] at hp
    rw [k _ (by omega), nl, pr_upk (by omega)]
    exact h.pa r p hr hp
  · rw [nr] at hr
    exact (h.sr hr).of (k _ (by omega)) (k _ (by omega)) (k _ (by omega)) (k _ (by omega)) (by rw [k _ (by omega)]) (k _ (by omega)) (k _ (by omega)) (by rw [k _ (by omega)]) (by rw [k _ (by omega)])
theorem Tm.opr {σ σ' : pr_I} {r : Nat} (h : Tm σ) (o : Opr σ σ' r) (h0 : 0 ≤ (σ 0 7).toInt) : Tm σ' := by
  refine ⟨h.1.op o h0, h.2.1.op o, fun r' hr' => ?_⟩
  rw [rqn_c o.2.1] at hr'
  rw [o.1]
  by_cases q : r' = r
  · subst q
    rcases o.2.2.2.2.2 with x | x | x
    · exact Or.inl x
    · exact Or.inr x
    · rw [x]; exact h.2.2 r' hr'
  · rw [(o.2.2.2.1 r' q).1]; exact h.2.2 r' hr'
theorem Tm.cong {σ σ' : pr_I} (h : Tm σ) (k : ∀ o ∈ ([0, 9, 14, 15, 18, 23, 25, 30] : List Nat), σ' o = σ o) : Tm σ' := by
  have a := tkn_c (k 9 (by decide))
  have b := rqn_c (k 18 (by decide))
  refine ⟨fun t ht => ?_, fun r hr z => ?_, fun r hr => ?_⟩
  · rw [a] at ht; rw [k 14 (by decide), k 15 (by decide), k 0 (by decide)]; exact h.1 t ht
  · rw [b] at hr; rw [k 23 (by decide)] at z; rw [k 30 (by decide), k 0 (by decide)]; exact h.2.1 r hr z
  · rw [b] at hr; rw [k 25 (by decide), k 0 (by decide)]; exact h.2.2 r hr
theorem cl_s {σ : pr_I} {n nr lk k : Nat} : w_close_it21 σ n nr lk (k + 1) = (if (tk_has (w_close_it21 σ n nr lk k).1 (nI k) (nI lk) n 0) = 0 then (w_close_it21 σ n nr lk k) else (if ((w_close_it21 σ n nr lk k).1 23 k) = (2 : Int32) then ((pr_up (w_settle (w_ra (w_close_it21 σ n nr lk k).1 n (nI k) (((w_close_it21 σ n nr lk k).1 30 k) - (σ 0 7)) (σ 22 k) (100 : Int32)) k (6 : Int32)) 30 k (σ 0 7)), (((w_close_it21 σ n nr lk k).2) + Int32.ofInt (1))) else ((w_fail (w_close_it21 σ n nr lk k).1 n k (nI lk)), (((w_close_it21 σ n nr lk k).2) + Int32.ofInt (1))))) := by
  rw [w_close_it21]
theorem dn_s {μ : pr_I} {lk k : Nat} : m_dn_it19 μ lk (k + 1) = (if (m_has1_r (m_dn_it19 μ lk k).1 k (nI lk)) = 0 then (m_dn_it19 μ lk k) else (if ((m_dn_it19 μ lk k).1 1 (264 + 28 * k + 4)) = (2 : Int32) then ((m_br (m_dn_it19 μ lk k).1 k), (((m_dn_it19 μ lk k).2) + Int32.ofInt (1))) else ((m_fa (m_dn_it19 μ lk k).1 k (nI lk)), (((m_dn_it19 μ lk k).2) + Int32.ofInt (1))))) := by
  rw [m_dn_it19]
theorem close_loop {σ μ : pr_I} (h : Wd σ μ) (tm : Tm σ) {n nr lk : Nat} (hn : n = tkn σ) (hl : lk < lkn σ) : ∀ k, k ≤ rqn σ → Wd (w_close_it21 σ n nr lk k).1 (m_dn_it19 μ lk k).1 ∧ (w_close_it21 σ n nr lk k).2 = (m_dn_it19 μ lk k).2 ∧ Tm (w_close_it21 σ n nr lk k).1
  | 0, _ => by
    have h24 := wI_nl24 h.cr.w
    have U := h.upb (v := (σ 1 7) &&& (((1 : Int32) <<< ((nI lk) &&& 31)) ^^^ ((-1) : Int32))) (b := 0) hl (fun k hk => by rw [if_pos rfl]; exact bit_off (by omega) hk) (Or.inl rfl)
    refine ⟨U, rfl, tm.cong (fun o ho => pr_up_ne ?_)⟩
    simp only [List.mem_cons, List.not_mem_nil, or_false] at ho; omega
  | k + 1, hk => by
    obtain ⟨i1, i2, i3⟩ := close_loop h tm (nr := nr) hn hl k (by omega)
    have f : ∀ o, o ∈ ([0, 9, 18, 22] : List Nat) → (w_close_it21 σ n nr lk k).1 o = σ o := fun o ho => by
      rw [fr_w_close_it21 (nin (A := [0, 9, 18, 22]) (by decide) ho), pr_up_ne (by simp only [List.mem_cons, List.not_mem_nil, or_false] at ho; omega)]
    have nl : lkn (w_close_it21 σ n nr lk k).1 = lkn σ := by
      have e : (w_close_it21 σ n nr lk k).1 1 = (pr_up σ 1 7 ((σ 1 7) &&& (((1 : Int32) <<< ((nI lk) &&& 31)) ^^^ ((-1) : Int32)))) 1 := fr_w_close_it21 (by decide)
      rw [lkn_c e]; unfold lkn; rw [pr_upk (by decide)]
    have nt : n = tkn (w_close_it21 σ n nr lk k).1 := by rw [tkn_c (f 9 (by decide))]; exact hn
    have rk : k < rqn (w_close_it21 σ n nr lk k).1 := by rw [rqn_c (f 18 (by decide))]; exact hk
    have e4 : (w_close_it21 σ n nr lk k).1 23 k = (m_dn_it19 μ lk k).1 1 (264 + 28 * k + 4) := i1.cr.req rk (c := 4) (by decide)
    have h24 := wI_nl24 h.cr.w
    have t0 := h.ti.1
    have e0 := f 0 (by decide)
    have e22 := f 22 (by decide)
    rw [cl_s, dn_s, has_r i1.cr nt, ← e4, ← i2]
    by_cases c : m_has1_r (m_dn_it19 μ lk k).1 k (nI lk) = 0
    · rw [if_pos c, if_pos c]; exact ⟨i1, i2, i3⟩
    · rw [if_neg c, if_neg c]
      by_cases c2 : (w_close_it21 σ n nr lk k).1 23 k = 2
      · rw [if_pos c2, if_pos c2, ← e0, ← e22]
        have a := i3.2.1 k rk c2
        exact ⟨i1.br nt rk (by omega), rfl, i3.opr Opr.br (by rw [e0]; exact t0)⟩
      · rw [if_neg c2, if_neg c2]
        exact ⟨i1.fail nt rk (nI_vin (by rw [nl]; exact hl) (by omega)), rfl, i3.opr (Opr.fail i1) (by rw [e0]; exact t0)⟩
theorem br_3 {μ : pr_I} {r : Nat} (hr : r < 40) : ∀ k, m_br_it2 μ r k 1 (264 + 28 * r + 3) = μ 1 (264 + 28 * r + 3) ∨ 500 < k
  | 0 => Or.inl rfl
  | k + 1 => by
    by_cases q : 500 < k + 1
    · exact Or.inr q
    · have ih := (br_3 (μ := μ) hr k).resolve_right (by omega)
      refine Or.inl ?_
      rw [br_s]
      split
      · split
        · exact ih
        · unfold m_gb
          rw [pr_upk (by omega), pr_upk (by omega), pr_upk (by omega)]; exact ih
      · exact ih
/-- taking a link down -/
theorem Wd.close {σ μ : pr_I} (h : Wd σ μ) (tm : Tm σ) {lk : Nat} (hl : lk < lkn σ) : Wd (w_close σ (tkn σ) (rqn σ) lk) (m_dn μ lk) ∧ w_close_r σ (tkn σ) (rqn σ) lk = m_dn_r μ lk ∧ Tm (w_close σ (tkn σ) (rqn σ) lk) ∧ m_dn_ok μ lk := by
  have L := close_loop h tm (n := tkn σ) (nr := rqn σ) rfl hl
  have e := L (rqn σ) (Nat.le_refl _)
  unfold w_close w_close_r m_dn m_dn_r m_dn_ok
  rw [h.cr.rn]
  refine ⟨e.1, e.2.1, e.2.2, fun k hk j hj => ?_⟩
  have W := (L k (by omega)).1
  have f : ∀ o, o ∈ ([9, 18, 22] : List Nat) → (w_close_it21 σ (tkn σ) (rqn σ) lk k).1 o = σ o := fun o ho => by
    rw [fr_w_close_it21 (nin (A := [9, 18, 22]) (by decide) ho), pr_up_ne (by simp only [List.mem_cons, List.not_mem_nil, or_false] at ho; omega)]
  have rk : k < rqn (w_close_it21 σ (tkn σ) (rqn σ) lk k).1 := by rw [rqn_c (f 18 (by decide))]; exact hk
  have h5 := wI_n5 h.cr.w
  rw [W.cr.tn, tkn_c (f 9 (by decide))] at hj
  rw [(br_3 (by have := wI_nr4 h.cr.w; omega) j).resolve_right (by omega), ← W.cr.req rk (c := 3) (by decide)]
  have q := (W.rq k rk).2.2.2.2.1
  intro z
  have z2 := congrArg Int64.toInt z
  rw [Int32.toInt_toInt64] at z2
  have z3 : ((w_close_it21 σ (tkn σ) (rqn σ) lk k).1 22 k).toInt = 0 := z2
  omega
