/-! THE FACE, CALL BY CALL: what changes the world -/
def WT (σ μ : pr_I) : Prop := Wd σ μ ∧ Tm σ
theorem Wd.mu {σ μ : pr_I} (h : Wd σ μ) : Wd σ (pr_up μ 0 6 (0 : Int32)) := h.cong h.cr.w (mI.upn h.cr.m rfl) (fun _ _ => rfl) (pr_up_ne (by decide))
theorem WT.mu {σ μ : pr_I} (h : WT σ μ) : WT σ (pr_up μ 0 6 (0 : Int32)) := ⟨h.1.mu, h.2⟩
theorem up_01 {σ : pr_I} {k : Nat} (hk : k < 32) : lk_up σ k = 0 ∨ lk_up σ k = 1 := by
  rw [lk_bit hk]
  cases bit (σ 1 7) k
  · exact Or.inl rfl
  · exact Or.inr rfl
theorem eq_takeDown {σ μ : pr_I} (h : WT σ μ) {k : Nat} (hk : k < lkn σ) : WT (fx_takeDown σ k) (mf_takeDown μ k) ∧ fx_takeDown_r σ k = mf_takeDown_r μ k ∧ m_dn_ok (pr_up μ 0 6 (0 : Int32)) k := by
  have e := h.1.up k hk
  have C := h.1.mu.close h.2 hk
  unfold fx_takeDown fx_takeDown_r mf_takeDown mf_takeDown_r
  rw [← e]
  by_cases c : lk_up σ k = 0
  · rw [if_pos c, if_pos rfl, if_pos rfl, if_pos c, if_pos c]
    exact ⟨h.mu, rfl, C.2.2.2⟩
  · rw [if_neg c, if_neg (show ¬ (1 : Int32) = 0 by decide), if_neg (show ¬ (1 : Int32) = 0 by decide), if_neg c, if_neg c]
    exact ⟨⟨C.1, C.2.2.1⟩, C.2.1, C.2.2.2⟩
theorem eq_bringUp {σ μ : pr_I} (h : WT σ μ) {k : Nat} (hk : k < lkn σ) : WT (fx_bringUp σ k) (mf_bringUp μ k) ∧ fx_bringUp_r σ k = mf_bringUp_r μ k := by
  have h24 := wI_nl24 h.1.cr.w
  have e := h.1.up k hk
  unfold fx_bringUp fx_bringUp_r mf_bringUp mf_bringUp_r
  rw [← e, ← h.1.cr.now]
  rcases up_01 (σ := σ) (k := k) (by omega) with c | c
  · have c1 : ¬ lk_up σ k = 1 := by rw [c]; decide
    rw [if_pos c, if_pos rfl, if_pos rfl, if_neg c1, if_neg c1]
    refine ⟨⟨h.1.mu.upb (b := 1) hk (fun i hi => ?_) (Or.inr rfl), h.2.cong (fun o ho => pr_up_ne ?_)⟩, rfl⟩
    · rw [if_neg (show ¬ (1 : Int32) = 0 by decide)]; exact bit_on (by omega) hi
    · simp only [List.mem_cons, List.not_mem_nil, or_false] at ho; omega
  · have c1 : ¬ lk_up σ k = 0 := by rw [c]; decide
    rw [if_neg c1, if_neg (show ¬ (1 : Int32) = 0 by decide), if_neg (show ¬ (1 : Int32) = 0 by decide), if_pos c, if_pos c]
    exact ⟨h.mu, rfl⟩
theorem eq_advance {σ μ : pr_I} (h : WT σ μ) {z : Int32} (h0 : 0 ≤ z.toInt) (h1 : z.toInt ≤ 2000) (ht : (σ 0 7).toInt ≤ 1000000) : WT (fx_advance σ z) (mf_advance μ z) ∧ fx_advance_r σ z = mf_advance_r μ z ∧ (σ 0 7 + z ≤ 1000000 → m_gn_ok (pr_up μ 0 6 (0 : Int32)) z) ∧ ((fx_advance σ z) 0 7).toInt ≤ 1000000 := by
  have t0 := h.1.ti.1
  have es : (σ 0 7 + z).toInt = (σ 0 7).toInt + z.toInt := i_add (by omega) (by omega)
  unfold fx_advance fx_advance_r mf_advance mf_advance_r
  rw [← h.1.cr.now]
  by_cases c : σ 0 7 + z ≤ 1000000
  · have c' := le_i.mp c
    rw [es, show (1000000 : Int32).toInt = 1000000 from rfl] at c'
    have P := h.1.mu.pass h.2 h0 h1 (lat := σ 0 7 + z) es.symm (by rw [es]; omega)
    rw [if_pos c, if_pos c, if_pos c, if_pos c]
    refine ⟨⟨P.1, P.2.2.1⟩, ?_, fun _ => P.2.1, ?_⟩
    · exact P.1.cr.now
    · rw [P.2.2.2, es]; exact c'
  · rw [if_neg c, if_neg c, if_neg c, if_neg c]
    exact ⟨h.mu, rfl, fun z => absurd z c, ht⟩
theorem Opr.ask {σ : pr_I} {s t u q : Int32} (h : Tm σ) (hr : rqn σ < 40) (h0 : 0 ≤ (σ 0 7).toInt) : Tk (rq_add σ (rqn σ) s t u q (σ 0 7)) ∧ Ta (rq_add σ (rqn σ) s t u q (σ 0 7)) ∧ ∀ r, r < rqn σ → (rq_add σ (rqn σ) s t u q (σ 0 7)) 25 r = -1 ∨ (σ 0 7).toInt < ((rq_add σ (rqn σ) s t u q (σ 0 7)) 25 r).toInt := by
  have k : ∀ o, o < 18 ∨ 33 < o → rq_add σ (rqn σ) s t u q (σ 0 7) o = σ o := fun o ho => fr_rq_add (by simp only [List.mem_cons, List.not_mem_nil, or_false, forall_eq_or_imp, forall_eq]; omega)
  have ro : ∀ o r, 18 < o → r ≠ rqn σ → rq_add σ (rqn σ) s t u q (σ 0 7) o r = σ o r := fun o r a b => rq_out (by omega) b
  have nr : rqn (rq_add σ (rqn σ) s t u q (σ 0 7)) = rqn σ + 1 := by
    show (rq_add σ (rqn σ) s t u q (σ 0 7) 18 17).toNatClampNeg = _
    rw [rq_18, nI_clamp (by omega)]
  refine ⟨fun i hi => ?_, fun r hr z => ?_, fun r hr => ?_⟩
  · rw [tkn_c (k 9 (by omega))] at hi
    rw [k 14 (by omega), k 15 (by omega), k 0 (by omega)]; exact h.1 i hi
  · rw [nr] at hr
    rw [k 0 (by omega)]
    by_cases e : r = rqn σ
    · rw [e] at z
      rw [show rq_add σ (rqn σ) s t u q (σ 0 7) 23 (rqn σ) = 7 from rq_in (c := 4) (by decide)] at z
      exact absurd z (by decide)
    · rw [ro 23 r (by decide) e] at z
      rw [ro 30 r (by decide) e]; exact h.2.1 r (by omega) z
  · rw [ro 25 r (by decide) (by omega)]; exact h.2.2 r hr
/-- times behind a request made -/
theorem Tm.mk {σ μ : pr_I} {s t u q : Int32} (h : Wd σ μ) (tm : Tm σ) (hr : rqn σ < 40) (hs : vp_in s (ndn σ)) (ht : vp_in t (ndn σ)) (hne : s ≠ t) (hu : 1 ≤ u.toInt ∧ u.toInt ≤ 1000) (hq : 1 ≤ q.toInt ∧ q.toInt ≤ 10000) : Tm (w_mk σ s t u q) := by
  have t0 := h.ti.1
  obtain ⟨A, nr, _⟩ := h.ask hr hs ht hne hu hq
  have B := (h.mk hr hs ht hne hu hq).2.2.2
  obtain ⟨k1, k2, k3⟩ := Opr.ask (s := s) (t := t) (u := u) (q := q) tm hr t0
  have c40 : nI (rqn σ) < nI 40 := (nI_ltI (by omega) (by decide)).mpr hr
  have k0 : rq_add σ (rqn σ) s t u q (σ 0 7) 0 = σ 0 := fr_rq_add (by decide)
  have d25 : rq_add σ (rqn σ) s t u q (σ 0 7) 25 (rqn σ) = σ 0 7 := rq_in (c := 6) (by decide)
  unfold w_mk at B ⊢
  rw [if_pos c40] at B ⊢
  have op := Opr.tr A (r := rqn σ) (by omega)
  refine ⟨k1.op op (by rw [k0]; exact t0), k2.op op, fun r hr' => ?_⟩
  rw [rqn_c op.2.1, nr] at hr'
  rw [op.1, k0]
  by_cases e : r = rqn σ
  · subst e
    rcases op.2.2.2.2.2 with x | x | x
    · exact Or.inl x
    · rw [k0] at x; exact Or.inr x
    · rw [d25] at x; exact absurd x B
  · rw [(op.2.2.2.1 r e).1]; exact k3 r (by omega)
theorem eq_request {σ μ : pr_I} (h : WT σ μ) {s t : Nat} {u q : Int32} (hs : s < ndn σ) (ht : t < ndn σ) (hne : s ≠ t) (hu : 1 ≤ u.toInt ∧ u.toInt ≤ 1000) (hq : 1 ≤ q.toInt ∧ q.toInt ≤ 10000) : WT (fx_request σ s t u q) (mf_request μ s t u q) ∧ fx_request_r σ s t u q = mf_request_r μ s t u q ∧ (rqn σ < 40 → m_mk_ok (pr_up μ 0 6 (0 : Int32)) (nI s) (nI t) u q) := by
  have h4 := wI_nr4 h.1.cr.w
  have hnn : ndn σ ≤ 12 := Nat.le_of_lt_succ (vp_in_lt (h.1.cr.w 0 6 13 rfl))
  unfold fx_request fx_request_r mf_request mf_request_r
  rw [h.1.cr.rn]
  by_cases c : rqn σ < 40
  · have c1 : ¬ nI (rqn σ) = nI 40 := fun z => by have := (nI_eq (by omega) (by decide)).mp z; omega
    have vs := nI_vin hs (by omega)
    have vt := nI_vin ht (by omega)
    have ne : nI s ≠ nI t := fun z => hne ((nI_eq (by omega) (by omega)).mp z)
    have M := h.1.mu.mk c vs vt ne hu hq
    rw [if_neg c1, if_neg c1]
    exact ⟨⟨M.1, Tm.mk h.1 h.2 c vs vt ne hu hq⟩, M.2.2.1, fun _ => M.2.1⟩
  · have c1 : nI (rqn σ) = nI 40 := by rw [show rqn σ = 40 by omega]
    have c2 : ¬ nI (rqn σ) < nI 40 := fun z => c ((nI_ltI (by omega) (by decide)).mp z)
    unfold w_mk w_mk_r
    rw [if_pos c1, if_pos c1, if_neg c2, if_neg c2]
    exact ⟨h.mu, rfl, fun z => absurd z c⟩
