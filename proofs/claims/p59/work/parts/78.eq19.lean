/-! AN ATTEMPT BEGINS ON BOTH SIDES -/
theorem Wd.cong {σ σ' μ μ' : pr_I} (h : Wd σ μ) (hw : wI σ') (hm : mI μ') (hs : ∀ o, o < 116 ∨ 118 < o → σ' o = σ o) (h1 : μ' 1 = μ 1) : Wd σ' μ' := by
  have n1 : lkn σ' = lkn σ := by unfold lkn; rw [hs 1 (by omega)]
  have n2 : rqn σ' = rqn σ := by unfold rqn; rw [hs 18 (by omega)]
  have n3 : tkn σ' = tkn σ := by unfold tkn; rw [hs 9 (by omega)]
  have C : Cr σ' μ' := by
    refine ⟨hw, hm, ?_, ?_, ?_, ?_⟩
    · rw [n1, n2, n3]; exact h.cr.rc.cong (fun o ho => hs o (by omega)) (fun j _ => by rw [h1])
    · rw [n1, n2, n3, hs 10 (by omega), hs 11 (by omega)]; exact fun t => h.cr.tl
    · rw [n3, hs 16 (by omega)]; exact fun t => h.cr.pc
    · rw [n1, n3, hs 7 (by omega)]
      intro k hk
      rw [prom_congr (n := tkn σ) (μ := μ) _ (fun t _ c _ => by rw [h1])]
      exact h.cr.pr hk
  refine h.keep C (fun o ho => hs o ?_) (fun r hr => hs _ (by omega)) (fun j _ => by rw [h1]) (fun r hr => ?_)
  · simp only [List.mem_cons, List.not_mem_nil, or_false] at ho; omega
  · have h4 := wI_nr4 h.cr.w
    exact (h.sr hr).of (hs _ (by omega)) (hs _ (by omega)) (hs _ (by omega)) (hs _ (by omega)) (by rw [hs _ (by omega)]) (hs _ (by omega)) (hs _ (by omega)) (by rw [hs _ (by omega)]) (by rw [hs _ (by omega)])
theorem Wd.bl {σ μ : pr_I} (h : Wd σ μ) : BL σ μ (lkn σ) (ndn σ) := by
  refine ⟨wI_nl24 h.cr.w, Nat.le_of_lt_succ (vp_in_lt (h.cr.w 0 6 13 rfl)), fun k hk => ?_⟩
  obtain ⟨l1, l2, l3, l4, l5, l6⟩ := h.lk k hk
  exact ⟨l1, l2, vp_rng l4.1 l4.2, h.cr.link hk (c := 0) (by decide), h.cr.link hk (c := 1) (by decide), h.cr.link hk (c := 3) (by decide)⟩
theorem Cr.prow {σ μ : pr_I} (h : Cr σ μ) {r : Nat} {f : Nat → Int32} (hr : r < 40) (hf : ∀ k, vp_in (f k) 24) : Cr (pr_row σ (35 + r) f) μ := by
  have k : ∀ o, o ≠ 35 + r → pr_row σ (35 + r) f o = σ o := fun o ho => pr_row_ne ho
  have n1 : lkn (pr_row σ (35 + r) f) = lkn σ := by unfold lkn; rw [k 1 (by omega)]
  have n2 : rqn (pr_row σ (35 + r) f) = rqn σ := by unfold rqn; rw [k 18 (by omega)]
  have n3 : tkn (pr_row σ (35 + r) f) = tkn σ := by unfold tkn; rw [k 9 (by omega)]
  refine ⟨wI.row h.w (fun k B q => by rw [wB_p hr] at q; cases q; exact hf k), h.m, ?_, ?_, ?_, ?_⟩
  · rw [n1, n2, n3]; exact h.rc.clsr (by omega)
  · rw [n1, n2, n3, k 10 (by omega), k 11 (by omega)]; exact fun t => h.tl
  · rw [n3, k 16 (by omega)]; exact fun t => h.pc
  · rw [n1, n3, k 7 (by omega)]; exact fun t => h.pr
theorem Cr.mpath {σ μ : pr_I} (h : Cr σ μ) {r p : Nat} {v : Int32} (hr : r < 40) (hp : p < 11) (hv : vp_in v 24) : Cr σ (pr_up μ 1 (264 + 28 * r + (15 + p)) v) := by
  refine ⟨h.w, mI_upr hr (by omega) (by unfold mR; rw [if_neg (by omega), if_neg (by omega), if_neg (by omega), if_neg (by omega), if_neg (by omega), if_pos (by omega)]) hv h.m, ?_, fun t => h.tl, fun t => h.pc, ?_⟩
  · refine h.rc.cong (fun o _ => rfl) (fun j hj => pr_upk ?_)
    have h4 := wI_nr4 h.w
    have h24 := wI_nl24 h.w
    rcases hj with a | ⟨k, c, a, b, _, rfl⟩ | ⟨k, c, a, b, rfl⟩ | ⟨k, c, a, b, rfl⟩ <;> omega
  · intro k hk
    rw [prom_congr (n := tkn σ) (μ := μ) _ (fun t _ c _ => pr_upk (by omega))]
    exact h.pr hk
/-- the reference's path written, cell by cell -/
noncomputable def at2 (M : pr_I) (r : Nat) : Nat → pr_I
  | 0 => pr_up M 1 (264 + 28 * r + 13) (M 0 17)
  | k + 1 => pr_up (at2 M r k) 1 (264 + 28 * r + (15 + k)) (M 10 k)
theorem at2_s {M : pr_I} {r k : Nat} : at2 M r (k + 1) = pr_up (at2 M r k) 1 (264 + 28 * r + (15 + k)) (M 10 k) := rfl
theorem at2_eq {μ : pr_I} {r : Nat} : ∀ k, m_at_it62 μ r k = at2 (m_fi μ (μ 1 (264 + 28 * r + 0)) (μ 1 (264 + 28 * r + 1)) ((m_up_r μ (mln μ)) &&& ((μ 1 (264 + 28 * r + 9)) ^^^ ((-1) : Int32)))) r k
  | 0 => rfl
  | k + 1 => by rw [m_at_it62, at2_eq k, at2_s]
theorem at2_ne {M : pr_I} {r j : Nat} (h : j ≠ 264 + 28 * r + 13) : ∀ k, (∀ p, p < k → j ≠ 264 + 28 * r + (15 + p)) → at2 M r k 1 j = M 1 j
  | 0, _ => pr_upk h
  | k + 1, g => by rw [at2_s, pr_upk (g k (by omega))]; exact at2_ne h k (fun p hp => g p (by omega))
theorem at2_p {M : pr_I} {r : Nat} : ∀ k p, p < k → at2 M r k 1 (264 + 28 * r + (15 + p)) = M 10 p
  | 0, _, h => absurd h (by omega)
  | k + 1, p, h => by
    rw [at2_s]
    by_cases q : p = k
    · rw [q, pr_upe]
    · rw [pr_upk (by omega)]; exact at2_p k p (by omega)
theorem Sr.of2 {σ σ' : pr_I} {r : Nat} (h : Sr σ r) (h9 : σ' 9 = σ 9) (h10 : σ' 10 = σ 10) (h11 : σ' 11 = σ 11) (h32 : σ' 32 r = σ 32 r) (h33 : σ' 33 r = σ 33 r) (h35 : σ' (35 + r) = σ (35 + r)) (h76 : σ' (76 + r) = σ (76 + r)) (h23 : σ' 23 r = σ 23 r) (h25 : σ' 25 r = σ 25 r) : Sr σ' r := by
  unfold Sr Pt Pk tkn
  rw [h23, h25, h9, h10, h11, h32, h33, h35, h76]; exact h
