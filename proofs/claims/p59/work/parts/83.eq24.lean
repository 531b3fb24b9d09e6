/-- a request asked for, its attempt not begun -/
theorem Wd.ask {σ μ : pr_I} {s t u q : Int32} (h : Wd σ μ) (hr : rqn σ < 40) (hs : vp_in s (ndn σ)) (ht : vp_in t (ndn σ)) (hne : s ≠ t) (hu : 1 ≤ u.toInt ∧ u.toInt ≤ 1000) (hq : 1 ≤ q.toInt ∧ q.toInt ≤ 10000) : Wd (rq_add σ (rqn σ) s t u q (σ 0 7)) (mk1 μ s t u q (σ 0 7)) ∧ rqn (rq_add σ (rqn σ) s t u q (σ 0 7)) = rqn σ + 1 ∧ mI (m_mk0 μ s t u q) := by
  have hnn : ndn σ ≤ 12 := Nat.le_of_lt_succ (vp_in_lt (h.cr.w 0 6 13 rfl))
  have hs12 := vp_in_mono hs hnn
  have ht12 := vp_in_mono ht hnn
  have h24 := wI_nl24 h.cr.w
  have e8 := h.cr.rn
  have m0 := mI_m_mk0 (s := s) (t := t) (u := u) (q := q) h.cr.m hs12 ht12 (by omega)
  have out : ∀ j, j ≠ 8 → (j < 264 + 28 * rqn σ ∨ 264 + 28 * rqn σ + 28 ≤ j) → mk1 μ s t u q (σ 0 7) 1 j = μ 1 j := fun j a b => mk1_out a (by rw [e8]; exact b)
  have k : ∀ o, o < 18 ∨ 33 < o → rq_add σ (rqn σ) s t u q (σ 0 7) o = σ o := fun o ho => fr_rq_add (by simp only [List.mem_cons, List.not_mem_nil, or_false, forall_eq_or_imp, forall_eq]; omega)
  have c8 : rq_add σ (rqn σ) s t u q (σ 0 7) 18 17 = nI (rqn σ + 1) := rq_18
  have nr : rqn (rq_add σ (rqn σ) s t u q (σ 0 7)) = rqn σ + 1 := by
    show (rq_add σ (rqn σ) s t u q (σ 0 7) 18 17).toNatClampNeg = _
    rw [c8, nI_clamp (by omega)]
  have nl : lkn (rq_add σ (rqn σ) s t u q (σ 0 7)) = lkn σ := by unfold lkn; rw [k 1 (by omega)]
  have nt : tkn (rq_add σ (rqn σ) s t u q (σ 0 7)) = tkn σ := by unfold tkn; rw [k 9 (by omega)]
  have nn : ndn (rq_add σ (rqn σ) s t u q (σ 0 7)) = ndn σ := by unfold ndn; rw [k 0 (by omega)]
  have ro : ∀ o r, 18 < o → r ≠ rqn σ → rq_add σ (rqn σ) s t u q (σ 0 7) o r = σ o r := fun o r a b => rq_out (by omega) b
  have ri : ∀ c, c < 15 → rq_add σ (rqn σ) s t u q (σ 0 7) (19 + c) (rqn σ) = mkv s t u q (σ 0 7) c := fun c hc => rq_in hc
  have C : Cr (rq_add σ (rqn σ) s t u q (σ 0 7)) (mk1 μ s t u q (σ 0 7)) := by
    refine ⟨wI_rq_add hr hs12 ht12 h.cr.w, ?_, ?_, ?_, ?_, ?_⟩
    · unfold mk1
      rw [e8]
      exact mI.upn (mI.upn m0 ((mW_req (k := rqn σ) (c := 4) (by omega) (by decide)).trans rfl)) ((mW_req (k := rqn σ) (c := 6) (by omega) (by decide)).trans rfl)
    · rw [nl, nr, nt]
      refine RC.addr (fun j hj => ?_) (fun c hc => ?_)
      · rcases hj with a | ⟨i, c, a, b, b5, rfl⟩ | ⟨i, c, a, b, rfl⟩ | ⟨i, c, a, b, rfl⟩
        · by_cases q8 : j = 8
          · rw [q8, mk1_8, e8]; exact c8
          · rw [out j q8 (by omega), ← h.cr.rc.g a]
            have : (cA j).1 < 18 ∨ 33 < (cA j).1 := by
              rcases (by omega : j = 0 ∨ (0 < j ∧ j < 6) ∨ j = 6 ∨ j = 7 ∨ j = 9) with e | e | e | e | e
              · rw [e]; decide
              · unfold cA; rw [if_neg (by omega), if_pos (by omega)]; right; show 33 < 119; omega
              · rw [e]; decide
              · rw [e]; decide
              · rw [e]; decide
            rw [k _ this]
        · by_cases q6 : c = 6
          · rw [q6, cA_fail (by omega), out _ (by omega) (by omega), ← h.cr.fail a]
            show rq_add σ (rqn σ) s t u q (σ 0 7) 8 i = σ 8 i
            rw [k 8 (by omega)]
          · rw [cA_link (by omega) (by omega), out _ (by omega) (by omega), ← h.cr.link a (by omega)]
            show rq_add σ (rqn σ) s t u q (σ 0 7) (2 + c) i = σ (2 + c) i
            rw [k _ (by omega)]
        · rw [cA_req (by omega) b, out _ (by omega) (by omega), ← h.cr.req a b]
          exact ro _ _ (by omega) (by omega)
        · rw [cA_tick b, out _ (by omega) (by omega), ← h.cr.tick a b]
          show rq_add σ (rqn σ) s t u q (σ 0 7) (10 + c) i = σ (10 + c) i
          rw [k _ (by omega)]
      · unfold EJ
        rw [cA_req hr hc, ← e8, mk1_in hc, e8]
        exact ri c hc
    · rw [nr, nl, nt, k 10 (by omega), k 11 (by omega)]
      exact fun i hi => ⟨vp_in_mono (h.cr.tl hi).1 (Nat.le_succ _), (h.cr.tl hi).2⟩
    · rw [nt, k 16 (by omega)]; exact fun i => h.cr.pc
    · rw [nl, nt, k 7 (by omega)]
      intro i hi
      rw [prom_congr (n := tkn σ) (μ := μ) _ (fun i _ c _ => out _ (by omega) (by omega))]
      exact h.cr.pr hi
  refine ⟨⟨C, fun i hi => ?_, fun r p hr' hp => ?_, h.lk.of (by rw [k 0 (by omega)]) (by rw [k 1 (by omega)]) (k 2 (by omega)) (k 3 (by omega)) (k 4 (by omega)) (k 5 (by omega)) (k 6 (by omega)), fun r hr' => ?_, h.se.of (k 119 (by omega)), h.ti.of (by rw [k 0 (by omega)]), fun r hr' => ?_⟩, nr, m0⟩
  · rw [nl] at hi
    rw [out _ (by omega) (by omega)]
    unfold lk_up; rw [k 1 (by omega)]
    exact h.up i hi
  · rw [nr] at hr'
    by_cases z : r = rqn σ
    · have e : rq_add σ (rqn σ) s t u q (σ 0 7) 32 r = 0 := by rw [z]; exact ri 13 (by decide)
      rw [e] at hp
      exact absurd hp (by show ¬ p < 0; omega)
    · rw [ro 32 r (by decide) z] at hp
      have hp11 : p < 11 := by have := vp_in_lt (h.cr.w 32 r 12 rfl); omega
      rw [k _ (by omega), nl, out _ (by omega) (by omega)]
      exact h.pa r p (by omega) hp
  · rw [nr] at hr'
    rw [nn]
    by_cases z : r = rqn σ
    · rw [z, show rq_add σ (rqn σ) s t u q (σ 0 7) 19 (rqn σ) = s from ri 0 (by decide), show rq_add σ (rqn σ) s t u q (σ 0 7) 20 (rqn σ) = t from ri 1 (by decide), show rq_add σ (rqn σ) s t u q (σ 0 7) 21 (rqn σ) = u from ri 2 (by decide), show rq_add σ (rqn σ) s t u q (σ 0 7) 22 (rqn σ) = q from ri 3 (by decide)]
      exact ⟨hs, ht, hne, hu, hq⟩
    · rw [ro 19 r (by decide) z, ro 20 r (by decide) z, ro 21 r (by decide) z, ro 22 r (by decide) z]
      exact h.rq r (by omega)
  · rw [nr] at hr'
    by_cases z : r = rqn σ
    · unfold Sr
      rw [z, show rq_add σ (rqn σ) s t u q (σ 0 7) 23 (rqn σ) = 7 from ri 4 (by decide)]
      exact ⟨nI_vin (k := 7) (by decide) (by decide), fun y => absurd y (by decide), fun y => absurd y (by decide), fun y => absurd y (by decide)⟩
    · exact (h.sr (r := r) (by omega)).of2 (k 9 (by omega)) (k 10 (by omega)) (k 11 (by omega)) (ro 32 r (by decide) z) (ro 33 r (by decide) z) (k _ (by omega)) (k _ (by omega)) (ro 23 r (by decide) z) (ro 25 r (by decide) z)
theorem Wd.mk {σ μ : pr_I} {s t u q : Int32} (h : Wd σ μ) (hr : rqn σ < 40) (hs : vp_in s (ndn σ)) (ht : vp_in t (ndn σ)) (hne : s ≠ t) (hu : 1 ≤ u.toInt ∧ u.toInt ≤ 1000) (hq : 1 ≤ q.toInt ∧ q.toInt ≤ 10000) : Wd (w_mk σ s t u q) (m_mk μ s t u q) ∧ m_mk_ok μ s t u q ∧ w_mk_r σ s t u q = m_mk_r μ s t u q ∧ ¬ (w_mk σ s t u q) 25 (rqn σ) = σ 0 7 := by
  obtain ⟨A, nr, m0⟩ := h.ask hr hs ht hne hu hq
  have e8 := h.cr.rn
  have c40 : nI (rqn σ) < nI 40 := (nI_ltI (by omega) (by decide)).mpr hr
  unfold w_mk w_mk_r m_mk_r
  rw [if_pos c40, if_pos c40]
  have hrA : rqn σ < rqn (rq_add σ (rqn σ) s t u q (σ 0 7)) := by omega
  have k0 : rq_add σ (rqn σ) s t u q (σ 0 7) 0 = σ 0 := fr_rq_add (by decide)
  have d25 : rq_add σ (rqn σ) s t u q (σ 0 7) 25 (rqn σ) = rq_add σ (rqn σ) s t u q (σ 0 7) 0 7 := by rw [k0]; exact rq_in (c := 6) (by decide)
  have d23 : rq_add σ (rqn σ) s t u q (σ 0 7) 23 (rqn σ) = 7 := rq_in (c := 4) (by decide)
  generalize rq_add σ (rqn σ) s t u q (σ 0 7) = a at *
  have bg := A.beg hrA d25 (μ := m_mk0 μ s t u q) (fun j x y => by
    unfold mk1
    rw [e8, pr_upk y, pr_upk x]) m0
  have t1 : w_t1 a (rqn σ) = w_beg a (rqn σ) := by unfold w_t1; rw [if_pos d23]
  have b0 : (w_beg a (rqn σ)) 0 = a 0 := fr_w_beg (by decide) (by omega) (by omega)
  have b18 : (w_beg a (rqn σ)) 18 = a 18 := fr_w_beg (by decide) (by omega) (by omega)
  have hrB : rqn σ < rqn (w_beg a (rqn σ)) := by
    have : rqn (w_beg a (rqn σ)) = rqn a := congrArg (fun z : Nat → Int32 => (z 17).toNatClampNeg) b18
    omega
  have T := bg.1.tr hrB
  have ew : w_tr a (rqn σ) = w_tr (w_beg a (rqn σ)) (rqn σ) := by
    have x1 := (tr_stay A hrA (k := sl 1000000) (by rw [sl_eq]; decide)).1
    have x2 := (tr_stay A hrA (k := 2 + 1) (by decide)).1
    have x3 := it_shift (σ := a) (r := rqn σ) (by omega) d25 (by rw [t1, b0]) 2
    have x4 := (tr_stay bg.1 hrB (k := sl 1000000) (by rw [sl_eq]; decide)).1
    rw [t1] at x3
    unfold w_tr
    rw [x1, x4, ← x3, x2]
  rw [ew, e8]
  refine ⟨?_, ?_, rfl, ?_⟩
  · have em : m_mk μ s t u q = m_tr (m_at (m_mk0 μ s t u q) (rqn σ)) (rqn σ) := by rw [← e8]; rfl
    rw [em]; exact T.1
  · have eo : m_mk_ok μ s t u q = (m_at_ok (m_mk0 μ s t u q) (mrn μ) ∧ m_tr_ok (m_at (m_mk0 μ s t u q) (mrn μ)) (mrn μ)) := rfl
    rw [eo, e8]
    exact ⟨bg.2, T.2.1⟩
  · have := T.2.2
    rw [b0, k0] at this; exact this
