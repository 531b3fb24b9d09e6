section READ2
variable {σ μ : pr_I}
theorem eq_pathLink (h : WT σ μ) {k : Nat} {i : Int32} (hk : k < rqn σ) : fx_pathLink_r σ k i = mf_pathLink_r μ k i := by
  have e13 : σ 32 k = μ 1 (264 + 28 * k + 13) := h.1.cr.req hk (c := 13) (by decide)
  have hL := vp_in_lt (h.1.cr.w 32 k 12 rfl)
  have hlv : σ 32 k = nI (σ 32 k).toNatClampNeg := vp_nI (h.1.cr.w 32 k 12 rfl) (by decide)
  have hli : (σ 32 k).toInt = (σ 32 k).toNatClampNeg := by rw [hlv, nI_toI (by omega), nI_clamp (by omega)]
  have l1 : (σ 32 k - 1).toInt = (σ 32 k).toInt - 1 := i_sub (by rw [show (1 : Int32).toInt = 1 from rfl]; omega) (by rw [show (1 : Int32).toInt = 1 from rfl]; omega)
  have z0 : (0 : Int64).toInt = 0 := rfl
  unfold fx_pathLink_r mf_pathLink_r m_in_r
  rw [← e13]
  have lt1 : lg_cmp i.toInt64 (0 : Int64) < 0 ↔ i < 0 := by
    rw [lg_lt0, Int64.lt_iff_toInt_lt, Int32.toInt_toInt64, z0, lt_i]; exact Iff.rfl
  have lt2 : 0 < lg_cmp i.toInt64 (σ 32 k - 1).toInt64 ↔ σ 32 k ≤ i := by
    rw [lg_gt0, Int64.lt_iff_toInt_lt, Int32.toInt_toInt64, Int32.toInt_toInt64, l1, le_i]; omega
  by_cases c0 : i < 0
  · have a1 : (if i < 0 then (0 : Int32) else (if (σ 32 k) ≤ i then (0 : Int32) else (1 : Int32))) = 0 := if_pos c0
    have a2 : (if (lg_cmp i.toInt64 (0 : Int64)) < 0 then (0 : Int32) else (if 0 < (lg_cmp i.toInt64 (σ 32 k - 1).toInt64) then (0 : Int32) else (1 : Int32))) = 0 := if_pos (lt1.mpr c0)
    rw [if_pos a1, if_pos a2]
  · by_cases c1 : σ 32 k ≤ i
    · have a1 : (if i < 0 then (0 : Int32) else (if (σ 32 k) ≤ i then (0 : Int32) else (1 : Int32))) = 0 := by rw [if_neg c0, if_pos c1]
      have a2 : (if (lg_cmp i.toInt64 (0 : Int64)) < 0 then (0 : Int32) else (if 0 < (lg_cmp i.toInt64 (σ 32 k - 1).toInt64) then (0 : Int32) else (1 : Int32))) = 0 := by rw [if_neg (fun q => c0 (lt1.mp q)), if_pos (lt2.mpr c1)]
      rw [if_pos a1, if_pos a2]
    · have a1 : ¬ (if i < 0 then (0 : Int32) else (if (σ 32 k) ≤ i then (0 : Int32) else (1 : Int32))) = 0 := by rw [if_neg c0, if_neg c1]; decide
      have a2 : ¬ (if (lg_cmp i.toInt64 (0 : Int64)) < 0 then (0 : Int32) else (if 0 < (lg_cmp i.toInt64 (σ 32 k - 1).toInt64) then (0 : Int32) else (1 : Int32))) = 0 := by rw [if_neg (fun q => c0 (lt1.mp q)), if_neg (fun q => c1 (lt2.mp q))]; decide
      rw [if_neg a1, if_neg a2]
      refine (h.1.pa k i.toNatClampNeg hk ?_).1
      have c0' : ¬ i.toInt < 0 := fun q => c0 (lt_i.mpr q)
      have c1' : ¬ (σ 32 k).toInt ≤ i.toInt := fun q => c1 (le_i.mpr q)
      have : i.toNatClampNeg = i.toInt.toNat := rfl
      omega
theorem eq_ticketsOf (h : WT σ μ) {k c : Nat} : fx_ticketsOf_r σ k c = mf_ticketsOf_r μ k c := by
  have L : ∀ n, n ≤ tkn σ → tk_cnt σ (nI k) (nI c) n = mf_ticketsOf_it40 μ k c n := by
    intro n
    induction n with
    | zero => intro _; rfl
    | succ n ih =>
      intro hn
      have e0 : σ 10 n = μ 1 (1384 + 8 * n + 0) := h.1.cr.tick (by omega) (c := 0) (by decide)
      have e5 : σ 15 n = μ 1 (1384 + 8 * n + 5) := h.1.cr.tick (by omega) (c := 5) (by decide)
      rw [mf_ticketsOf_it40, ← e0, ← e5, ← ih (by omega)]
      rw [tk_cnt]
  unfold fx_ticketsOf_r mf_ticketsOf_r
  rw [h.1.cr.tn]
  exact L (tkn σ) (Nat.le_refl _)
theorem dec1 (x : Int32) : x + Int32.ofInt (-1) = x - 1 := by
  rw [Int32.sub_eq_add_neg]; rfl
theorem sub_inc (i a : Int32) : i - (a + 1) = i - a + Int32.ofInt (-1) := by
  rw [dec1, Int32.sub_eq_add_neg, Int32.sub_eq_add_neg, Int32.sub_eq_add_neg, Int32.neg_add, Int32.sub_eq_add_neg]
  ac_rfl
theorem eq_sub0 (i a : Int32) : a = i ↔ i - a = 0 := by
  constructor
  · intro e; rw [e, Int32.sub_self]
  · intro e
    have := congrArg (fun z => z + a) e
    rw [Int32.sub_add_cancel, Int32.zero_add] at this
    exact this.symm
theorem eq_requestInState (h : WT σ μ) {c : Nat} {i : Int32} : fx_requestInState_r σ c i = mf_requestInState_r μ c i := by
  have h4 := wI_nr4 h.1.cr.w
  have L : ∀ j k, ∀ a : Int32, k + j = rqn σ + 1 → rq_nw_rl5 σ (rqn σ) (nI c) i j k a = mf_requestInState_rl37 μ c i j k (i - a) := by
    intro j
    induction j with
    | zero => intro k a _; rfl
    | succ j ih =>
      intro k a hk
      rw [rq_nw_rl5, mf_requestInState_rl37, h.1.cr.rn]
      by_cases c0 : nI (rqn σ) ≤ nI k
      · rw [if_pos c0, if_pos c0]
      · have k1 : k < rqn σ := by
          by_cases q : k < rqn σ
          · exact q
          · exact absurd ((nI_leI (by omega) (by omega)).mpr (by omega)) c0
        have e4 : σ 23 k = μ 1 (264 + 28 * k + 4) := h.1.cr.req k1 (c := 4) (by decide)
        rw [if_neg c0, if_neg c0, ← e4]
        by_cases c1 : σ 23 k = nI c
        · rw [if_pos c1, if_pos c1]
          by_cases c2 : a = i
          · rw [if_pos c2, if_pos ((eq_sub0 i a).mp c2)]
          · rw [if_neg c2, if_neg (fun q => c2 ((eq_sub0 i a).mpr q)), ih (k + 1) (a + Int32.ofInt 1) (by omega)]
            rw [show a + Int32.ofInt 1 = a + 1 from rfl, sub_inc]
        · rw [if_neg c1, if_neg c1]; exact ih (k + 1) a (by omega)
  unfold fx_requestInState_r mf_requestInState_r rq_nw_r
  rw [h.1.cr.rn, L (rqn σ + 1) 0 0 (by omega), Int32.sub_zero]
theorem eq_ticketOn (h : WT σ μ) {l : Nat} {i : Int32} : fx_ticketOn_r σ l i = mf_ticketOn_r μ l i := by
  have h5 := wI_n5 h.1.cr.w
  have H := h.1.mu.cr
  have L : ∀ j k, ∀ a : Int32, k + j = tkn σ → tk_on σ (nI l) i j k a = mf_ticketOn_rl15 μ l i (j + 1) k (i - a) := by
    intro j
    induction j with
    | zero =>
      intro k a hk
      rw [tk_on, mf_ticketOn_rl15, h.1.cr.tn, if_pos ((nI_leI (by omega) (by omega)).mpr (by omega))]
    | succ j ih =>
      intro k a hk
      have e1 : σ 11 k = μ 1 (1384 + 8 * k + 1) := h.1.cr.tick (by omega) (c := 1) (by decide)
      have ek : tk_kp σ k = m_kept_r (pr_up μ 0 6 (0 : Int32)) k := H.kept (by omega)
      rw [tk_on, mf_ticketOn_rl15, h.1.cr.tn, if_neg (show ¬ nI (tkn σ) ≤ nI k from fun q => by have := (nI_leI (by omega) (by omega)).mp q; omega), ← e1, ← ek]
      by_cases c1 : σ 11 k = nI l
      · rw [if_pos c1, if_pos c1]
        by_cases c2 : tk_kp σ k = 0
        · rw [if_pos c2, if_pos c2]; exact ih (k + 1) a (by omega)
        · rw [if_neg c2, if_neg c2]
          by_cases c3 : a = i
          · rw [if_pos c3, if_pos ((eq_sub0 i a).mp c3)]
          · rw [if_neg c3, if_neg (fun q => c3 ((eq_sub0 i a).mpr q)), ih (k + 1) (a + 1) (by omega), sub_inc]
      · rw [if_neg c1, if_neg c1]; exact ih (k + 1) a (by omega)
  unfold fx_ticketOn_r mf_ticketOn_r
  rw [h.1.cr.tn, L (tkn σ) 0 0 (by omega), Int32.sub_zero]
/-- one and only one request has a ticket -/
noncomputable def one_r (x v : Int32) : Nat → Int32
  | 0 => 0
  | k + 1 => one_r x v k + (if x = nI k then v else 0)
theorem one_0 {x v : Int32} {r : Nat} (hr : r < 2 ^ 31) (e : x = nI r) : ∀ k, k ≤ r → one_r x v k = 0
  | 0, _ => rfl
  | k + 1, hk => by
    rw [one_r, one_0 hr e k (by omega), if_neg (fun q => by have := (nI_eq hr (by omega)).mp (e.symm.trans q); omega), Int32.add_zero]
theorem one_1 {x v : Int32} {r : Nat} (hr : r < 2 ^ 31) (e : x = nI r) : ∀ k, r < k → k < 2 ^ 31 → one_r x v k = v
  | 0, h, _ => absurd h (by omega)
  | k + 1, h, h2 => by
    by_cases q : r = k
    · rw [one_r, ← q, one_0 hr e r (Nat.le_refl _), if_pos e, Int32.zero_add]
    · rw [one_r, one_1 hr e k (by omega) (by omega), if_neg (fun z => q ((nI_eq hr (by omega)).mp (e.symm.trans z))), Int32.add_zero]
noncomputable def two_r (σ : pr_I) (c n : Nat) : Nat → Int32
  | 0 => 0
  | k + 1 => two_r σ c n k + tk_cnt σ (nI k) (nI c) n
theorem two_s {σ : pr_I} {c n : Nat} : ∀ k, two_r σ c (n + 1) k = two_r σ c n k + one_r (σ 10 n) (if σ 15 n = nI c then 1 else 0) k
  | 0 => by rw [two_r, two_r, one_r]; rfl
  | k + 1 => by
    rw [two_r, two_r, one_r, two_s k, tk_cnt]
    have e : (if σ 10 n = nI k then (if σ 15 n = nI c then (1 : Int32) else 0) else 0) = (if σ 10 n = nI k then (if σ 15 n = nI c then 1 else 0) else 0) := rfl
    rw [e]
    ac_rfl
theorem two_0 {σ : pr_I} {c : Nat} : ∀ k, two_r σ c 0 k = 0
  | 0 => rfl
  | k + 1 => by rw [two_r, two_0 k]; rfl
theorem eq_ticketsInState (h : WT σ μ) {c : Nat} : fx_ticketsInState_r σ c = mf_ticketsInState_r μ c := by
  have h4 := wI_nr4 h.1.cr.w
  have A : ∀ k, fx_ticketsInState_it10 σ c k = two_r σ c (tkn σ) k := by
    intro k
    induction k with
    | zero => rfl
    | succ k ih => rw [fx_ticketsInState_it10, two_r, ih]
  have L : ∀ n, n ≤ tkn σ → two_r σ c n (rqn σ) = mf_ticketsInState_it36 μ c n := by
    intro n
    induction n with
    | zero => intro _; rw [two_0]; rfl
    | succ n ih =>
      intro hn
      have t := (h.1.cr.tl (t := n) (by omega)).1
      have e5 : σ 15 n = μ 1 (1384 + 8 * n + 5) := h.1.cr.tick (by omega) (c := 5) (by decide)
      rw [two_s, mf_ticketsInState_it36, ih (by omega), ← e5, one_1 (r := (σ 10 n).toNatClampNeg) (by have := vp_in_lt t; omega) (vp_nI t (by omega)) (rqn σ) (vp_in_lt t) (by omega)]
  unfold fx_ticketsInState_r mf_ticketsInState_r
  rw [A, h.1.cr.tn]
  exact L (tkn σ) (Nat.le_refl _)
end READ2
