/-! WHAT THE REFERENCE KEEPS OF ITS CELLS 8 and 13 -/
theorem z8_m_fi_it27 {σ : pr_I} {s : Int32} {t : Int32} {u : Int32} {j0 : Nat} (hc : j0 = 8 ∨ j0 = 13) : ∀ {k : Nat}, (m_fi_it27 σ s t u k).1 0 j0 = (pr_up (m_lp σ t u) 0 17 (0 : Int32)) 0 j0 := by
  intro k
  induction k with
  | zero =>
    show (pr_up (m_lp σ t u) 0 17 (0 : Int32)) 0 j0 = (pr_up (m_lp σ t u) 0 17 (0 : Int32)) 0 j0
    rfl
  | succ k ih =>
    by_cases c_30 : ((m_fi_it27 σ s t u k).2) = t
    · refine (congrFun (congrFun (congrArg (fun z : pr_I × Int32 => z.1) (if_pos c_30)) 0) j0).trans ?_
      show (m_fi_it27 σ s t u k).1 0 j0 = (pr_up (m_lp σ t u) 0 17 (0 : Int32)) 0 j0
      rw [ih]
    · refine (congrFun (congrFun (congrArg (fun z : pr_I × Int32 => z.1) (if_neg c_30)) 0) j0).trans ?_
      show (pr_up (pr_up (m_fi_it27 σ s t u k).1 10 (((m_fi_it27 σ s t u k).1 0 17).toNatClampNeg) (m_fi_it36 σ (m_fi_it27 σ s t u k).1 s t u k ((m_fi_it27 σ s t u k).2) (sl 23))) 0 17 (((m_fi_it27 σ s t u k).1 0 17) + (1 : Int32))) 0 j0 = (pr_up (m_lp σ t u) 0 17 (0 : Int32)) 0 j0
      first | rw [pr_upv (by decide)] | rw [pr_upk (by omega)]
      first | rw [pr_upv (by decide)] | rw [pr_upk (by omega)]
      rw [ih]
theorem z8_m_fi {σ : pr_I} {s : Int32} {t : Int32} {u : Int32} {j0 : Nat} (hc : j0 = 8 ∨ j0 = 13) : m_fi σ s t u 0 j0 = σ 0 j0 := by
  unfold m_fi
  by_cases c_19 : ((m_lp σ t u) 8 s.toNatClampNeg) = (1000000000 : Int32)
  · refine (congrFun (congrFun (if_pos c_19) 0) j0).trans ?_
    first | rw [pr_upv (by decide)] | rw [pr_upk (by omega)]
    rw [fr_m_lp (o := 0) (by decide)]
  · refine (congrFun (congrFun (if_neg c_19) 0) j0).trans ?_
    rw [z8_m_fi_it27 hc]
    first | rw [pr_upv (by decide)] | rw [pr_upk (by omega)]
    rw [fr_m_lp (o := 0) (by decide)]
theorem z8_m_at {σ : pr_I} {r : Nat} {j0 : Nat} (hc : j0 = 8 ∨ j0 = 13) : m_at σ r 0 j0 = σ 0 j0 := by
  unfold m_at
  by_cases c_30 : (m_fi_r σ (σ 1 (264 + 28 * r + 0)) (σ 1 (264 + 28 * r + 1)) ((m_up_r σ (mln σ)) &&& ((σ 1 (264 + 28 * r + 9)) ^^^ ((-1) : Int32)))) = 0
  · refine (congrFun (congrFun (if_pos c_30) 0) j0).trans ?_
    first | rw [pr_upv (by decide)] | rw [pr_upk (by omega)]
    first | rw [pr_upv (by decide)] | rw [pr_upk (by omega)]
    rw [z8_m_fi hc]
  · refine (congrFun (congrFun (if_neg c_30) 0) j0).trans ?_
    first | rw [pr_upv (by decide)] | rw [pr_upk (by omega)]
    first | rw [pr_upv (by decide)] | rw [pr_upk (by omega)]
    first | rw [pr_upv (by decide)] | rw [pr_upk (by omega)]
    rw [fr_m_at_it62 (o := 0) (by decide)]
    first | rw [pr_upv (by decide)] | rw [pr_upk (by omega)]
    rw [z8_m_fi hc]
theorem z8_m_tr_it0 {σ : pr_I} {r : Nat} {j0 : Nat} (hc : j0 = 8 ∨ j0 = 13) : ∀ {k : Nat}, (m_tr_it0 σ r k) 0 j0 = σ 0 j0 := by
  intro k
  induction k with
  | zero =>
    show σ 0 j0 = σ 0 j0
    rfl
  | succ k ih =>
    by_cases c_13 : ((m_tr_it0 σ r k) 1 (264 + 28 * r + 6)) = (σ 1 0)
    · refine (congrFun (congrFun (congrArg (fun z : pr_I => z) (if_pos c_13)) 0) j0).trans ?_
      by_cases c_24 : ((m_tr_it0 σ r k) 1 (264 + 28 * r + 4)) = (7 : Int32)
      · refine (congrFun (congrFun (congrArg (fun z : pr_I => z) (if_pos c_24)) 0) j0).trans ?_
        show (m_at (m_tr_it0 σ r k) r) 0 j0 = σ 0 j0
        rw [z8_m_at hc]
        rw [ih]
      · refine (congrFun (congrFun (congrArg (fun z : pr_I => z) (if_neg c_24)) 0) j0).trans ?_
        by_cases c_41 : ((m_tr_it0 σ r k) 1 (264 + 28 * r + 4)) = 0
        · refine (congrFun (congrFun (congrArg (fun z : pr_I => z) (if_pos c_41)) 0) j0).trans ?_
          show (m_fw (m_tr_it0 σ r k) r) 0 j0 = σ 0 j0
          rw [fr_m_fw (o := 0) (by decide)]
          rw [ih]
        · refine (congrFun (congrFun (congrArg (fun z : pr_I => z) (if_neg c_41)) 0) j0).trans ?_
          show (m_bk (m_tr_it0 σ r k) r) 0 j0 = σ 0 j0
          rw [fr_m_bk (o := 0) (by decide)]
          rw [ih]
    · refine (congrFun (congrFun (congrArg (fun z : pr_I => z) (if_neg c_13)) 0) j0).trans ?_
      show (m_tr_it0 σ r k) 0 j0 = σ 0 j0
      rw [ih]
theorem z8_m_tr {σ : pr_I} {r : Nat} {j0 : Nat} (hc : j0 = 8 ∨ j0 = 13) : m_tr σ r 0 j0 = σ 0 j0 := by
  unfold m_tr
  rw [z8_m_tr_it0 hc]
theorem z8_m_ts_it110 {σ : pr_I} {j0 : Nat} (hc : j0 = 8 ∨ j0 = 13) : ∀ {k : Nat}, (m_ts_it110 σ k) 0 j0 = (m_ts_it60 σ (mrn σ)) 0 j0 := by
  intro k
  induction k with
  | zero =>
    show (m_ts_it60 σ (mrn σ)) 0 j0 = (m_ts_it60 σ (mrn σ)) 0 j0
    rfl
  | succ k ih =>
    show (m_tr (m_ts_it110 σ k) k) 0 j0 = (m_ts_it60 σ (mrn σ)) 0 j0
    rw [z8_m_tr hc]
    rw [ih]
theorem z8_m_ts {σ : pr_I}  {j0 : Nat} (hc : j0 = 8 ∨ j0 = 13) : m_ts σ 0 j0 = σ 0 j0 := by
  unfold m_ts
  rw [z8_m_ts_it110 hc]
  rw [fr_m_ts_it60 (o := 0) (by decide)]
  rw [fr_m_ts_it12 (o := 0) (by decide)]
  first | rw [pr_upv (by decide)] | rw [pr_upk (by omega)]
theorem z8_m_mk {σ : pr_I} {s : Int32} {t : Int32} {u : Int32} {q : Int32} {j0 : Nat} (hc : j0 = 8 ∨ j0 = 13) : m_mk σ s t u q 0 j0 = σ 0 j0 := by
  unfold m_mk
  rw [z8_m_tr hc]
  rw [z8_m_at hc]
  first | rw [pr_upv (by decide)] | rw [pr_upk (by omega)]
  first | rw [pr_upv (by decide)] | rw [pr_upk (by omega)]
  first | rw [pr_upv (by decide)] | rw [pr_upk (by omega)]
  first | rw [pr_upv (by decide)] | rw [pr_upk (by omega)]
  first | rw [pr_upv (by decide)] | rw [pr_upk (by omega)]
  first | rw [pr_upv (by decide)] | rw [pr_upk (by omega)]
  first | rw [pr_upv (by decide)] | rw [pr_upk (by omega)]
  first | rw [pr_upv (by decide)] | rw [pr_upk (by omega)]
  rw [fr_m_mk_it12 (o := 0) (by decide)]
theorem z8_m_gn_fl2 {σ : pr_I} {z : Int32} {j0 : Nat} (hc : j0 = 8 ∨ j0 = 13) : ∀ {j : Nat} {σ1 : pr_I} {x2 : Int32}, (m_gn_fl2 σ z j σ1 x2) 0 j0 = σ1 0 j0 := by
  intro j
  induction j with
  | zero => intro _ _; rfl
  | succ j ih =>
    intro σ1 x2
    show ((if z ≤ x2 then σ1 else (if (x2 + (m_po_r σ1 (z - x2))) = z then (m_po σ1 (z - x2)) else (m_gn_fl2 σ z j (m_ts (m_po σ1 (z - x2))) ((x2 + (m_po_r σ1 (z - x2))) + Int32.ofInt (1)))))) 0 j0 = σ1 0 j0
    by_cases c_4 : z ≤ x2
    · refine (congrFun (congrFun (congrArg (fun z : pr_I => z) (if_pos c_4)) 0) j0).trans ?_
      show σ1 0 j0 = σ1 0 j0
      rfl
    · refine (congrFun (congrFun (congrArg (fun z : pr_I => z) (if_neg c_4)) 0) j0).trans ?_
      by_cases c_19 : (x2 + (m_po_r σ1 (z - x2))) = z
      · refine (congrFun (congrFun (congrArg (fun z : pr_I => z) (if_pos c_19)) 0) j0).trans ?_
        show (m_po σ1 (z - x2)) 0 j0 = σ1 0 j0
        rw [fr_m_po (o := 0) (by decide)]
      · refine (congrFun (congrFun (congrArg (fun z : pr_I => z) (if_neg c_19)) 0) j0).trans ?_
        rw [ih]
        rw [z8_m_ts hc]
        rw [fr_m_po (o := 0) (by decide)]
theorem z8_m_gn {σ : pr_I} {z : Int32} {j0 : Nat} (hc : j0 = 8 ∨ j0 = 13) : m_gn σ z 0 j0 = σ 0 j0 := by
  unfold m_gn
  rw [z8_m_gn_fl2 hc]
theorem z8_m_ua_fl2 {σ : pr_I} {r : Nat} {j0 : Nat} (hc : j0 = 8 ∨ j0 = 13) : ∀ {j : Nat} {σ1 : pr_I} {x2 : Int32}, (m_ua_fl2 σ r j σ1 x2).1 0 j0 = σ1 0 j0 := by
  intro j
  induction j with
  | zero => intro _ _; rfl
  | succ j ih =>
    intro σ1 x2
    show ((if (σ1 1 (264 + 28 * r + 4)) = (2 : Int32) then (σ1, (if (σ1 1 (264 + 28 * r + 4)) = (2 : Int32) then (if x2 ≤ (2000 : Int32) then x2 else ((-1) : Int32)) else ((-1) : Int32))) else (if (2000 : Int32) < x2 then (σ1, (if (σ1 1 (264 + 28 * r + 4)) = (2 : Int32) then (if x2 ≤ (2000 : Int32) then x2 else ((-1) : Int32)) else ((-1) : Int32))) else (if (m_ne_r σ1) = ((-1) : Int32) then (σ1, (if (σ1 1 (264 + 28 * r + 4)) = (2 : Int32) then (if x2 ≤ (2000 : Int32) then x2 else ((-1) : Int32)) else ((-1) : Int32))) else (m_ua_fl2 σ r j (m_ts (m_po σ1 ((2000 : Int32) - x2))) ((x2 + (m_po_r σ1 ((2000 : Int32) - x2))) + Int32.ofInt (1))))))).1 0 j0 = σ1 0 j0
    by_cases c_9 : (σ1 1 (264 + 28 * r + 4)) = (2 : Int32)
    · refine (congrFun (congrFun (congrArg (fun z : pr_I × Int32 => z.1) (if_pos c_9)) 0) j0).trans ?_
      show σ1 0 j0 = σ1 0 j0
      rfl
    · refine (congrFun (congrFun (congrArg (fun z : pr_I × Int32 => z.1) (if_neg c_9)) 0) j0).trans ?_
      by_cases c_16 : (2000 : Int32) < x2
      · refine (congrFun (congrFun (congrArg (fun z : pr_I × Int32 => z.1) (if_pos c_16)) 0) j0).trans ?_
        show σ1 0 j0 = σ1 0 j0
        rfl
      · refine (congrFun (congrFun (congrArg (fun z : pr_I × Int32 => z.1) (if_neg c_16)) 0) j0).trans ?_
        by_cases c_24 : (m_ne_r σ1) = ((-1) : Int32)
        · refine (congrFun (congrFun (congrArg (fun z : pr_I × Int32 => z.1) (if_pos c_24)) 0) j0).trans ?_
          show σ1 0 j0 = σ1 0 j0
          rfl
        · refine (congrFun (congrFun (congrArg (fun z : pr_I × Int32 => z.1) (if_neg c_24)) 0) j0).trans ?_
          rw [ih]
          rw [z8_m_ts hc]
          rw [fr_m_po (o := 0) (by decide)]
theorem z8_m_ua {σ : pr_I} {r : Nat} {j0 : Nat} (hc : j0 = 8 ∨ j0 = 13) : m_ua σ r 0 j0 = σ 0 j0 := by
  unfold m_ua
  rw [z8_m_ua_fl2 hc]
theorem z8_m_fn {σ : pr_I} {s : Int32} {t : Int32} {u : Int32} {j0 : Nat} (hc : j0 = 8 ∨ j0 = 13) : m_fn σ s t u 0 j0 = σ 0 j0 := by
  unfold m_fn
  rw [pr_row_ne (by decide)]
  rw [z8_m_ua hc]
  rw [z8_m_mk hc]
  rw [pr_row_ne (by decide)]
theorem z8_m_own {σ : pr_I} {c : Nat} {j0 : Nat} (hc : j0 = 8 ∨ j0 = 13) : m_own σ c 0 j0 = σ 0 j0 := by
  unfold m_own
  first | rw [pr_upv (by decide)] | rw [pr_upk (by omega)]
theorem z8_mf_nodeCount {σ : pr_I}  {j0 : Nat} (hc : j0 = 8 ∨ j0 = 13) : mf_nodeCount σ 0 j0 = σ 0 j0 := by
  unfold mf_nodeCount
  rw [z8_m_own hc]
theorem z8_mf_linkCount {σ : pr_I}  {j0 : Nat} (hc : j0 = 8 ∨ j0 = 13) : mf_linkCount σ 0 j0 = σ 0 j0 := by
  unfold mf_linkCount
  rw [z8_m_own hc]
theorem z8_mf_time {σ : pr_I}  {j0 : Nat} (hc : j0 = 8 ∨ j0 = 13) : mf_time σ 0 j0 = σ 0 j0 := by
  unfold mf_time
  rw [z8_m_own hc]
theorem z8_mf_requestCount {σ : pr_I}  {j0 : Nat} (hc : j0 = 8 ∨ j0 = 13) : mf_requestCount σ 0 j0 = σ 0 j0 := by
  unfold mf_requestCount
  rw [z8_m_own hc]
theorem z8_mf_ticketCount {σ : pr_I}  {j0 : Nat} (hc : j0 = 8 ∨ j0 = 13) : mf_ticketCount σ 0 j0 = σ 0 j0 := by
  unfold mf_ticketCount
  rw [z8_m_own hc]
theorem z8_mf_setting {σ : pr_I} {c : Nat} {j0 : Nat} (hc : j0 = 8 ∨ j0 = 13) : mf_setting σ c 0 j0 = σ 0 j0 := by
  unfold mf_setting
  first | rw [pr_upv (by decide)] | rw [pr_upk (by omega)]
theorem z8_mf_setSetting {σ : pr_I} {c : Nat} {z : Int32} {j0 : Nat} (hc : j0 = 8 ∨ j0 = 13) : mf_setSetting σ c z 0 j0 = σ 0 j0 := by
  unfold mf_setSetting
  first | rw [pr_upv (by decide)] | rw [pr_upk (by omega)]
  first | rw [pr_upv (by decide)] | rw [pr_upk (by omega)]
theorem z8_mf_setCapacity {σ : pr_I} {k : Nat} {z : Int32} {j0 : Nat} (hc : j0 = 8 ∨ j0 = 13) : mf_setCapacity σ k z 0 j0 = σ 0 j0 := by
  unfold mf_setCapacity
  by_cases c_41 : (m_prom_r (pr_up σ 0 6 (0 : Int32)) (mtn σ) (nI k)) ≤ z
  · refine (congrFun (congrFun (if_pos c_41) 0) j0).trans ?_
    first | rw [pr_upv (by decide)] | rw [pr_upk (by omega)]
    first | rw [pr_upv (by decide)] | rw [pr_upk (by omega)]
  · refine (congrFun (congrFun (if_neg c_41) 0) j0).trans ?_
    first | rw [pr_upv (by decide)] | rw [pr_upk (by omega)]
theorem z8_mf_takeDown {σ : pr_I} {k : Nat} {j0 : Nat} (hc : j0 = 8 ∨ j0 = 13) : mf_takeDown σ k 0 j0 = σ 0 j0 := by
  unfold mf_takeDown
  by_cases c_16 : (σ 1 (96 + 7 * k + 5)) = 0
  · refine (congrFun (congrFun (if_pos c_16) 0) j0).trans ?_
    first | rw [pr_upv (by decide)] | rw [pr_upk (by omega)]
  · refine (congrFun (congrFun (if_neg c_16) 0) j0).trans ?_
    rw [fr_m_dn (o := 0) (by decide)]
    first | rw [pr_upv (by decide)] | rw [pr_upk (by omega)]
theorem z8_mf_bringUp {σ : pr_I} {k : Nat} {j0 : Nat} (hc : j0 = 8 ∨ j0 = 13) : mf_bringUp σ k 0 j0 = σ 0 j0 := by
  unfold mf_bringUp
  by_cases c_17 : (σ 1 (96 + 7 * k + 5)) = (1 : Int32)
  · refine (congrFun (congrFun (if_pos c_17) 0) j0).trans ?_
    first | rw [pr_upv (by decide)] | rw [pr_upk (by omega)]
  · refine (congrFun (congrFun (if_neg c_17) 0) j0).trans ?_
    first | rw [pr_upv (by decide)] | rw [pr_upk (by omega)]
    first | rw [pr_upv (by decide)] | rw [pr_upk (by omega)]
theorem z8_mf_request {σ : pr_I} {s : Nat} {t : Nat} {u : Int32} {q : Int32} {j0 : Nat} (hc : j0 = 8 ∨ j0 = 13) : mf_request σ s t u q 0 j0 = σ 0 j0 := by
  unfold mf_request
  by_cases c_58 : (nI (mrn σ)) = (nI 40)
  · refine (congrFun (congrFun (if_pos c_58) 0) j0).trans ?_
    first | rw [pr_upv (by decide)] | rw [pr_upk (by omega)]
  · refine (congrFun (congrFun (if_neg c_58) 0) j0).trans ?_
    rw [z8_m_mk hc]
    first | rw [pr_upv (by decide)] | rw [pr_upk (by omega)]
theorem z8_mf_cancel {σ : pr_I} {k : Nat} {j0 : Nat} (hc : j0 = 8 ∨ j0 = 13) : mf_cancel σ k 0 j0 = σ 0 j0 := by
  unfold mf_cancel
  by_cases c_18 : (σ 1 (264 + 28 * k + 4)) = 0
  · refine (congrFun (congrFun (if_pos c_18) 0) j0).trans ?_
    rw [fr_m_st (o := 0) (by decide)]
    rw [fr_mf_cancel_it45 (o := 0) (by decide)]
    first | rw [pr_upv (by decide)] | rw [pr_upk (by omega)]
  · refine (congrFun (congrFun (if_neg c_18) 0) j0).trans ?_
    by_cases c_23 : (σ 1 (264 + 28 * k + 4)) = (1 : Int32)
    · refine (congrFun (congrFun (if_pos c_23) 0) j0).trans ?_
      rw [fr_m_st (o := 0) (by decide)]
      rw [fr_mf_cancel_it45 (o := 0) (by decide)]
      first | rw [pr_upv (by decide)] | rw [pr_upk (by omega)]
    · refine (congrFun (congrFun (if_neg c_23) 0) j0).trans ?_
      by_cases c_28 : (σ 1 (264 + 28 * k + 4)) = (2 : Int32)
      · refine (congrFun (congrFun (if_pos c_28) 0) j0).trans ?_
        rw [fr_m_st (o := 0) (by decide)]
        rw [fr_mf_cancel_it45 (o := 0) (by decide)]
        first | rw [pr_upv (by decide)] | rw [pr_upk (by omega)]
      · refine (congrFun (congrFun (if_neg c_28) 0) j0).trans ?_
        by_cases c_34 : (σ 1 (264 + 28 * k + 4)) = (7 : Int32)
        · refine (congrFun (congrFun (if_pos c_34) 0) j0).trans ?_
          rw [fr_m_st (o := 0) (by decide)]
          rw [fr_mf_cancel_it45 (o := 0) (by decide)]
          first | rw [pr_upv (by decide)] | rw [pr_upk (by omega)]
        · refine (congrFun (congrFun (if_neg c_34) 0) j0).trans ?_
          first | rw [pr_upv (by decide)] | rw [pr_upk (by omega)]
theorem z8_mf_extend {σ : pr_I} {k : Nat} {j0 : Nat} (hc : j0 = 8 ∨ j0 = 13) : mf_extend σ k 0 j0 = σ 0 j0 := by
  unfold mf_extend
  rw [fr_mf_extend_it14 (o := 0) (by decide)]
  first | rw [pr_upv (by decide)] | rw [pr_upk (by omega)]
theorem z8_mf_requestValue {σ : pr_I} {k : Nat} {c : Nat} {j0 : Nat} (hc : j0 = 8 ∨ j0 = 13) : mf_requestValue σ k c 0 j0 = σ 0 j0 := by
  unfold mf_requestValue
  first | rw [pr_upv (by decide)] | rw [pr_upk (by omega)]
theorem z8_mf_pathLength {σ : pr_I} {k : Nat} {j0 : Nat} (hc : j0 = 8 ∨ j0 = 13) : mf_pathLength σ k 0 j0 = σ 0 j0 := by
  unfold mf_pathLength
  first | rw [pr_upv (by decide)] | rw [pr_upk (by omega)]
theorem z8_mf_pathLink {σ : pr_I} {k : Nat} {z : Int32} {j0 : Nat} (hc : j0 = 8 ∨ j0 = 13) : mf_pathLink σ k z 0 j0 = σ 0 j0 := by
  unfold mf_pathLink
  by_cases c_26 : (m_in_r (pr_up σ 0 6 (0 : Int32)) ((z).toInt64) (0 : Int64) ((((σ 1 (264 + 28 * k + 13)) - (1 : Int32))).toInt64)) = 0
  · refine (congrFun (congrFun (if_pos c_26) 0) j0).trans ?_
    first | rw [pr_upv (by decide)] | rw [pr_upk (by omega)]
  · refine (congrFun (congrFun (if_neg c_26) 0) j0).trans ?_
    first | rw [pr_upv (by decide)] | rw [pr_upk (by omega)]
theorem z8_mf_placeOf {σ : pr_I} {k : Nat} {j0 : Nat} (hc : j0 = 8 ∨ j0 = 13) : mf_placeOf σ k 0 j0 = σ 0 j0 := by
  unfold mf_placeOf
  first | rw [pr_upv (by decide)] | rw [pr_upk (by omega)]
theorem z8_mf_inState {σ : pr_I} {c : Nat} {j0 : Nat} (hc : j0 = 8 ∨ j0 = 13) : mf_inState σ c 0 j0 = σ 0 j0 := by
  unfold mf_inState
  first | rw [pr_upv (by decide)] | rw [pr_upk (by omega)]
theorem z8_mf_requestInState {σ : pr_I} {c : Nat} {i : Int32} {j0 : Nat} (hc : j0 = 8 ∨ j0 = 13) : mf_requestInState σ c i 0 j0 = σ 0 j0 := by
  unfold mf_requestInState
  first | rw [pr_upv (by decide)] | rw [pr_upk (by omega)]
theorem z8_mf_ticketValue {σ : pr_I} {k : Nat} {c : Nat} {j0 : Nat} (hc : j0 = 8 ∨ j0 = 13) : mf_ticketValue σ k c 0 j0 = σ 0 j0 := by
  unfold mf_ticketValue
  first | rw [pr_upv (by decide)] | rw [pr_upk (by omega)]
theorem z8_mf_ticketOn {σ : pr_I} {lk : Nat} {i : Int32} {j0 : Nat} (hc : j0 = 8 ∨ j0 = 13) : mf_ticketOn σ lk i 0 j0 = σ 0 j0 := by
  unfold mf_ticketOn
  first | rw [pr_upv (by decide)] | rw [pr_upk (by omega)]
theorem z8_mf_ticketsInState {σ : pr_I} {c : Nat} {j0 : Nat} (hc : j0 = 8 ∨ j0 = 13) : mf_ticketsInState σ c 0 j0 = σ 0 j0 := by
  unfold mf_ticketsInState
  first | rw [pr_upv (by decide)] | rw [pr_upk (by omega)]
theorem z8_mf_ticketsOf {σ : pr_I} {k : Nat} {c : Nat} {j0 : Nat} (hc : j0 = 8 ∨ j0 = 13) : mf_ticketsOf σ k c 0 j0 = σ 0 j0 := by
  unfold mf_ticketsOf
  first | rw [pr_upv (by decide)] | rw [pr_upk (by omega)]
theorem z8_mf_revenue {σ : pr_I}  {j0 : Nat} (hc : j0 = 8 ∨ j0 = 13) : mf_revenue σ 0 j0 = σ 0 j0 := by
  unfold mf_revenue
  first | rw [pr_upv (by decide)] | rw [pr_upk (by omega)]
theorem z8_mf_refunds {σ : pr_I}  {j0 : Nat} (hc : j0 = 8 ∨ j0 = 13) : mf_refunds σ 0 j0 = σ 0 j0 := by
  unfold mf_refunds
  first | rw [pr_upv (by decide)] | rw [pr_upk (by omega)]
theorem z8_mf_nextExpiry {σ : pr_I}  {j0 : Nat} (hc : j0 = 8 ∨ j0 = 13) : mf_nextExpiry σ 0 j0 = σ 0 j0 := by
  unfold mf_nextExpiry
  first | rw [pr_upv (by decide)] | rw [pr_upk (by omega)]
theorem z8_mf_nextEvent {σ : pr_I}  {j0 : Nat} (hc : j0 = 8 ∨ j0 = 13) : mf_nextEvent σ 0 j0 = σ 0 j0 := by
  unfold mf_nextEvent
  first | rw [pr_upv (by decide)] | rw [pr_upk (by omega)]
theorem z8_mf_isSafe {σ : pr_I}  {j0 : Nat} (hc : j0 = 8 ∨ j0 = 13) : mf_isSafe σ 0 j0 = σ 0 j0 := by
  unfold mf_isSafe
  first | rw [pr_upv (by decide)] | rw [pr_upk (by omega)]
theorem z8_mf_advance {σ : pr_I} {z : Int32} {j0 : Nat} (hc : j0 = 8 ∨ j0 = 13) : mf_advance σ z 0 j0 = σ 0 j0 := by
  unfold mf_advance
  by_cases c_43 : ((σ 1 0) + z) ≤ (1000000 : Int32)
  · refine (congrFun (congrFun (if_pos c_43) 0) j0).trans ?_
    rw [z8_m_gn hc]
    first | rw [pr_upv (by decide)] | rw [pr_upk (by omega)]
  · refine (congrFun (congrFun (if_neg c_43) 0) j0).trans ?_
    first | rw [pr_upv (by decide)] | rw [pr_upk (by omega)]
theorem z8_mf_cheapest {σ : pr_I} {s : Nat} {t : Nat} {u : Int32} {j0 : Nat} (hc : j0 = 8 ∨ j0 = 13) : mf_cheapest σ s t u 0 j0 = σ 0 j0 := by
  unfold mf_cheapest
  rw [z8_m_fi hc]
  first | rw [pr_upv (by decide)] | rw [pr_upk (by omega)]
theorem z8_mf_roundTrip {σ : pr_I} {s : Nat} {t : Nat} {u : Int32} {j0 : Nat} (hc : j0 = 8 ∨ j0 = 13) : mf_roundTrip σ s t u 0 j0 = σ 0 j0 := by
  unfold mf_roundTrip
  rw [z8_m_fi hc]
  first | rw [pr_upv (by decide)] | rw [pr_upk (by omega)]
theorem z8_mf_cheapestLink {σ : pr_I} {s : Nat} {t : Nat} {u : Int32} {i : Int32} {j0 : Nat} (hc : j0 = 8 ∨ j0 = 13) : mf_cheapestLink σ s t u i 0 j0 = σ 0 j0 := by
  unfold mf_cheapestLink
  by_cases c_23 : (m_fi_r (pr_up σ 0 6 (0 : Int32)) (nI s) (nI t) (m_lw_r (pr_up σ 0 6 (0 : Int32)) (mtn σ) (mln σ) u)) = 0
  · refine (congrFun (congrFun (if_pos c_23) 0) j0).trans ?_
    rw [z8_m_fi hc]
    first | rw [pr_upv (by decide)] | rw [pr_upk (by omega)]
  · refine (congrFun (congrFun (if_neg c_23) 0) j0).trans ?_
    by_cases c_40 : (m_in_r (m_fi (pr_up σ 0 6 (0 : Int32)) (nI s) (nI t) (m_lw_r (pr_up σ 0 6 (0 : Int32)) (mtn σ) (mln σ) u)) ((i).toInt64) (0 : Int64) (((((m_fi (pr_up σ 0 6 (0 : Int32)) (nI s) (nI t) (m_lw_r (pr_up σ 0 6 (0 : Int32)) (mtn σ) (mln σ) u)) 0 17) - (1 : Int32))).toInt64)) = 0
    · refine (congrFun (congrFun (if_pos c_40) 0) j0).trans ?_
      rw [z8_m_fi hc]
      first | rw [pr_upv (by decide)] | rw [pr_upk (by omega)]
    · refine (congrFun (congrFun (if_neg c_40) 0) j0).trans ?_
      rw [z8_m_fi hc]
      first | rw [pr_upv (by decide)] | rw [pr_upk (by omega)]
theorem z8_mf_neededHold {σ : pr_I} {s : Nat} {t : Nat} {u : Int32} {j0 : Nat} (hc : j0 = 8 ∨ j0 = 13) : mf_neededHold σ s t u 0 j0 = σ 0 j0 := by
  unfold mf_neededHold
  by_cases c_23 : (m_fi_r (pr_up σ 0 6 (0 : Int32)) (nI s) (nI t) (m_lw_r (pr_up σ 0 6 (0 : Int32)) (mtn σ) (mln σ) u)) = 0
  · refine (congrFun (congrFun (if_pos c_23) 0) j0).trans ?_
    rw [z8_m_fi hc]
    first | rw [pr_upv (by decide)] | rw [pr_upk (by omega)]
  · refine (congrFun (congrFun (if_neg c_23) 0) j0).trans ?_
    rw [z8_m_fi hc]
    first | rw [pr_upv (by decide)] | rw [pr_upk (by omega)]
theorem z8_mf_widest_it16 {σ : pr_I} {s : Nat} {t : Nat} {j0 : Nat} (hc : j0 = 8 ∨ j0 = 13) : ∀ {k : Nat}, (mf_widest_it16 σ s t k).1 0 j0 = (pr_up σ 0 6 (0 : Int32)) 0 j0 := by
  intro k
  induction k with
  | zero =>
    show (pr_up σ 0 6 (0 : Int32)) 0 j0 = (pr_up σ 0 6 (0 : Int32)) 0 j0
    rfl
  | succ k ih =>
    by_cases c_39 : (m_av_r (mf_widest_it16 σ s t k).1 (mtn σ) k) ≤ ((mf_widest_it16 σ s t k).2)
    · refine (congrFun (congrFun (congrArg (fun z : pr_I × Int32 => z.1) (if_pos c_39)) 0) j0).trans ?_
      show (mf_widest_it16 σ s t k).1 0 j0 = (pr_up σ 0 6 (0 : Int32)) 0 j0
      rw [ih]
    · refine (congrFun (congrFun (congrArg (fun z : pr_I × Int32 => z.1) (if_neg c_39)) 0) j0).trans ?_
      by_cases c_54 : (m_fi_r (mf_widest_it16 σ s t k).1 (nI s) (nI t) (m_lw_r (mf_widest_it16 σ s t k).1 (mtn σ) (mln σ) (m_av_r (mf_widest_it16 σ s t k).1 (mtn σ) k))) = 0
      · refine (congrFun (congrFun (congrArg (fun z : pr_I × Int32 => z.1) (if_pos c_54)) 0) j0).trans ?_
        show (m_fi (mf_widest_it16 σ s t k).1 (nI s) (nI t) (m_lw_r (mf_widest_it16 σ s t k).1 (mtn σ) (mln σ) (m_av_r (mf_widest_it16 σ s t k).1 (mtn σ) k))) 0 j0 = (pr_up σ 0 6 (0 : Int32)) 0 j0
        rw [z8_m_fi hc]
        rw [ih]
      · refine (congrFun (congrFun (congrArg (fun z : pr_I × Int32 => z.1) (if_neg c_54)) 0) j0).trans ?_
        show (m_fi (mf_widest_it16 σ s t k).1 (nI s) (nI t) (m_lw_r (mf_widest_it16 σ s t k).1 (mtn σ) (mln σ) (m_av_r (mf_widest_it16 σ s t k).1 (mtn σ) k))) 0 j0 = (pr_up σ 0 6 (0 : Int32)) 0 j0
        rw [z8_m_fi hc]
        rw [ih]
theorem z8_mf_widest {σ : pr_I} {s : Nat} {t : Nat} {j0 : Nat} (hc : j0 = 8 ∨ j0 = 13) : mf_widest σ s t 0 j0 = σ 0 j0 := by
  unfold mf_widest
  rw [z8_mf_widest_it16 hc]
  first | rw [pr_upv (by decide)] | rw [pr_upk (by omega)]
theorem z8_mf_reachable {σ : pr_I} {s : Nat} {u : Int32} {j0 : Nat} (hc : j0 = 8 ∨ j0 = 13) : mf_reachable σ s u 0 j0 = σ 0 j0 := by
  unfold mf_reachable
  first | rw [pr_upv (by decide)] | rw [pr_upk (by omega)]
theorem z8_mf_criticalLinks_it38 {σ : pr_I} {s : Nat} {t : Nat} {u : Int32} {j0 : Nat} (hc : j0 = 8 ∨ j0 = 13) : ∀ {k : Nat}, (mf_criticalLinks_it38 σ s t u k).1 0 j0 = (m_fi (pr_up σ 0 6 (0 : Int32)) (nI s) (nI t) (m_lw_r (pr_up σ 0 6 (0 : Int32)) (mtn σ) (mln σ) u)) 0 j0 := by
  intro k
  induction k with
  | zero =>
    show (m_fi (pr_up σ 0 6 (0 : Int32)) (nI s) (nI t) (m_lw_r (pr_up σ 0 6 (0 : Int32)) (mtn σ) (mln σ) u)) 0 j0 = (m_fi (pr_up σ 0 6 (0 : Int32)) (nI s) (nI t) (m_lw_r (pr_up σ 0 6 (0 : Int32)) (mtn σ) (mln σ) u)) 0 j0
    rfl
  | succ k ih =>
    by_cases c_59 : (m_has_r (mf_criticalLinks_it38 σ s t u k).1 (m_lw_r (pr_up σ 0 6 (0 : Int32)) (mtn σ) (mln σ) u) (nI k)) = 0
    · refine (congrFun (congrFun (congrArg (fun z : pr_I × Int32 => z.1) (if_pos c_59)) 0) j0).trans ?_
      show (mf_criticalLinks_it38 σ s t u k).1 0 j0 = (m_fi (pr_up σ 0 6 (0 : Int32)) (nI s) (nI t) (m_lw_r (pr_up σ 0 6 (0 : Int32)) (mtn σ) (mln σ) u)) 0 j0
      rw [ih]
    · refine (congrFun (congrFun (congrArg (fun z : pr_I × Int32 => z.1) (if_neg c_59)) 0) j0).trans ?_
      show (m_fi (mf_criticalLinks_it38 σ s t u k).1 (nI s) (nI t) ((m_lw_r (pr_up σ 0 6 (0 : Int32)) (mtn σ) (mln σ) u) &&& (((1 : Int32) <<< ((nI k) &&& 31)) ^^^ ((-1) : Int32)))) 0 j0 = (m_fi (pr_up σ 0 6 (0 : Int32)) (nI s) (nI t) (m_lw_r (pr_up σ 0 6 (0 : Int32)) (mtn σ) (mln σ) u)) 0 j0
      rw [z8_m_fi hc]
      rw [ih]
theorem z8_mf_criticalLinks {σ : pr_I} {s : Nat} {t : Nat} {u : Int32} {j0 : Nat} (hc : j0 = 8 ∨ j0 = 13) : mf_criticalLinks σ s t u 0 j0 = σ 0 j0 := by
  unfold mf_criticalLinks
  by_cases c_27 : (m_fi_r (pr_up σ 0 6 (0 : Int32)) (nI s) (nI t) (m_lw_r (pr_up σ 0 6 (0 : Int32)) (mtn σ) (mln σ) u)) = 0
  · refine (congrFun (congrFun (if_pos c_27) 0) j0).trans ?_
    rw [z8_m_fi hc]
    first | rw [pr_upv (by decide)] | rw [pr_upk (by omega)]
  · refine (congrFun (congrFun (if_neg c_27) 0) j0).trans ?_
    rw [z8_mf_criticalLinks_it38 hc]
    rw [z8_m_fi hc]
    first | rw [pr_upv (by decide)] | rw [pr_upk (by omega)]
theorem z8_mf_greatestFlow {σ : pr_I} {s : Nat} {t : Nat} {j0 : Nat} (hc : j0 = 8 ∨ j0 = 13) : mf_greatestFlow σ s t 0 j0 = σ 0 j0 := by
  unfold mf_greatestFlow
  rw [fr_m_fs (o := 0) (by decide)]
  rw [fr_m_lr (o := 0) (by decide)]
  first | rw [pr_upv (by decide)] | rw [pr_upk (by omega)]
theorem z8_mf_smallestCut {σ : pr_I} {s : Nat} {t : Nat} {j0 : Nat} (hc : j0 = 8 ∨ j0 = 13) : mf_smallestCut σ s t 0 j0 = σ 0 j0 := by
  unfold mf_smallestCut
  rw [fr_m_fs (o := 0) (by decide)]
  rw [fr_m_lr (o := 0) (by decide)]
  first | rw [pr_upv (by decide)] | rw [pr_upk (by omega)]
theorem z8_mf_disjointPaths {σ : pr_I} {s : Nat} {t : Nat} {u : Int32} {j0 : Nat} (hc : j0 = 8 ∨ j0 = 13) : mf_disjointPaths σ s t u 0 j0 = σ 0 j0 := by
  unfold mf_disjointPaths
  rw [fr_m_fs (o := 0) (by decide)]
  rw [fr_mf_disjointPaths_it22 (o := 0) (by decide)]
  first | rw [pr_upv (by decide)] | rw [pr_upk (by omega)]
theorem z8_mf_ticksUntilActive {σ : pr_I} {k : Nat} {j0 : Nat} (hc : j0 = 8 ∨ j0 = 13) : mf_ticksUntilActive σ k 0 j0 = σ 0 j0 := by
  unfold mf_ticksUntilActive
  rw [pr_row_ne (by decide)]
  rw [z8_m_ua hc]
  rw [pr_row_ne (by decide)]
  first | rw [pr_upv (by decide)] | rw [pr_upk (by omega)]
theorem z8_mf_revenueAfter {σ : pr_I} {z : Int32} {j0 : Nat} (hc : j0 = 8 ∨ j0 = 13) : mf_revenueAfter σ z 0 j0 = σ 0 j0 := by
  unfold mf_revenueAfter
  rw [pr_row_ne (by decide)]
  rw [z8_m_gn hc]
  rw [pr_row_ne (by decide)]
  first | rw [pr_upv (by decide)] | rw [pr_upk (by omega)]
theorem z8_mf_availableAfter {σ : pr_I} {k : Nat} {z : Int32} {j0 : Nat} (hc : j0 = 8 ∨ j0 = 13) : mf_availableAfter σ k z 0 j0 = σ 0 j0 := by
  unfold mf_availableAfter
  rw [pr_row_ne (by decide)]
  rw [z8_m_gn hc]
  rw [pr_row_ne (by decide)]
  first | rw [pr_upv (by decide)] | rw [pr_upk (by omega)]
theorem z8_mf_stateAfter {σ : pr_I} {k : Nat} {z : Int32} {j0 : Nat} (hc : j0 = 8 ∨ j0 = 13) : mf_stateAfter σ k z 0 j0 = σ 0 j0 := by
  unfold mf_stateAfter
  rw [pr_row_ne (by decide)]
  rw [z8_m_gn hc]
  rw [pr_row_ne (by decide)]
  first | rw [pr_upv (by decide)] | rw [pr_upk (by omega)]
theorem z8_mf_activeWithout {σ : pr_I} {k : Nat} {z : Int32} {j0 : Nat} (hc : j0 = 8 ∨ j0 = 13) : mf_activeWithout σ k z 0 j0 = σ 0 j0 := by
  unfold mf_activeWithout
  by_cases c_37 : (σ 1 (96 + 7 * k + 5)) = (1 : Int32)
  · refine (congrFun (congrFun (if_pos c_37) 0) j0).trans ?_
    rw [pr_row_ne (by decide)]
    rw [z8_m_gn hc]
    rw [fr_m_dn (o := 0) (by decide)]
    rw [pr_row_ne (by decide)]
    first | rw [pr_upv (by decide)] | rw [pr_upk (by omega)]
  · refine (congrFun (congrFun (if_neg c_37) 0) j0).trans ?_
    rw [pr_row_ne (by decide)]
    rw [z8_m_gn hc]
    rw [pr_row_ne (by decide)]
    first | rw [pr_upv (by decide)] | rw [pr_upk (by omega)]
theorem z8_mf_ticksForNew {σ : pr_I} {s : Nat} {t : Nat} {u : Int32} {j0 : Nat} (hc : j0 = 8 ∨ j0 = 13) : mf_ticksForNew σ s t u 0 j0 = σ 0 j0 := by
  unfold mf_ticksForNew
  by_cases c_45 : (nI (mrn σ)) = (nI 40)
  · refine (congrFun (congrFun (if_pos c_45) 0) j0).trans ?_
    first | rw [pr_upv (by decide)] | rw [pr_upk (by omega)]
  · refine (congrFun (congrFun (if_neg c_45) 0) j0).trans ?_
    rw [z8_m_fn hc]
    first | rw [pr_upv (by decide)] | rw [pr_upk (by omega)]
theorem z8_mf_greatestNew_fl30 {σ : pr_I} {s : Nat} {t : Nat} {j0 : Nat} (hc : j0 = 8 ∨ j0 = 13) : ∀ {j : Nat} {σ1 : pr_I} {x3 : Int32}, (mf_greatestNew_fl30 σ s t j σ1 x3).1 0 j0 = σ1 0 j0 := by
  intro j
  induction j with
  | zero => intro _ _; rfl
  | succ j ih =>
    intro σ1 x3
    show ((if x3 ≤ 0 then (σ1, ((-1) : Int32)) else (if (m_fn_r σ1 (nI s) (nI t) x3) = ((-1) : Int32) then (mf_greatestNew_fl30 σ s t j (m_fn σ1 (nI s) (nI t) x3) (x3 / (2 : Int32))) else ((m_fn σ1 (nI s) (nI t) x3), x3)))).1 0 j0 = σ1 0 j0
    by_cases c_31 : x3 ≤ 0
    · refine (congrFun (congrFun (congrArg (fun z : pr_I × Int32 => z.1) (if_pos c_31)) 0) j0).trans ?_
      show σ1 0 j0 = σ1 0 j0
      rfl
    · refine (congrFun (congrFun (congrArg (fun z : pr_I × Int32 => z.1) (if_neg c_31)) 0) j0).trans ?_
      by_cases c_42 : (m_fn_r σ1 (nI s) (nI t) x3) = ((-1) : Int32)
      · refine (congrFun (congrFun (congrArg (fun z : pr_I × Int32 => z.1) (if_pos c_42)) 0) j0).trans ?_
        rw [ih]
        rw [z8_m_fn hc]
      · refine (congrFun (congrFun (congrArg (fun z : pr_I × Int32 => z.1) (if_neg c_42)) 0) j0).trans ?_
        show (m_fn σ1 (nI s) (nI t) x3) 0 j0 = σ1 0 j0
        rw [z8_m_fn hc]
theorem z8_mf_greatestNew {σ : pr_I} {s : Nat} {t : Nat} {j0 : Nat} (hc : j0 = 8 ∨ j0 = 13) : mf_greatestNew σ s t 0 j0 = σ 0 j0 := by
  unfold mf_greatestNew
  by_cases c_20 : (nI (mrn σ)) = (nI 40)
  · refine (congrFun (congrFun (if_pos c_20) 0) j0).trans ?_
    first | rw [pr_upv (by decide)] | rw [pr_upk (by omega)]
  · refine (congrFun (congrFun (if_neg c_20) 0) j0).trans ?_
    rw [z8_mf_greatestNew_fl30 hc]
    first | rw [pr_upv (by decide)] | rw [pr_upk (by omega)]
theorem z8_mf_ticksUntilAvailable_fl48 {σ : pr_I} {k : Nat} {u : Int32} {j0 : Nat} (hc : j0 = 8 ∨ j0 = 13) : ∀ {j : Nat} {σ1 : pr_I} {x3 : Int32}, (mf_ticksUntilAvailable_fl48 σ k u j σ1 x3).1 0 j0 = σ1 0 j0 := by
  intro j
  induction j with
  | zero => intro _ _; rfl
  | succ j ih =>
    intro σ1 x3
    show ((if u ≤ (m_av_r σ1 (mtn σ1) k) then ((pr_row σ1 1 (cp_row (cp_row (σ 1) (σ 2) 5384) (σ1 1) 5384)), (if x3 ≤ (2000 : Int32) then x3 else ((-1) : Int32))) else (if (2000 : Int32) < x3 then ((pr_row σ1 1 (cp_row (cp_row (σ 1) (σ 2) 5384) (σ1 1) 5384)), (if x3 ≤ (2000 : Int32) then x3 else ((-1) : Int32))) else (mf_ticksUntilAvailable_fl48 σ k u j (m_ts (m_po σ1 ((2000 : Int32) - x3))) ((x3 + (m_po_r σ1 ((2000 : Int32) - x3))) + Int32.ofInt (1)))))).1 0 j0 = σ1 0 j0
    by_cases c_54 : u ≤ (m_av_r σ1 (mtn σ1) k)
    · refine (congrFun (congrFun (congrArg (fun z : pr_I × Int32 => z.1) (if_pos c_54)) 0) j0).trans ?_
      show (pr_row σ1 1 (cp_row (cp_row (σ 1) (σ 2) 5384) (σ1 1) 5384)) 0 j0 = σ1 0 j0
      rw [pr_row_ne (by decide)]
    · refine (congrFun (congrFun (congrArg (fun z : pr_I × Int32 => z.1) (if_neg c_54)) 0) j0).trans ?_
      by_cases c_61 : (2000 : Int32) < x3
      · refine (congrFun (congrFun (congrArg (fun z : pr_I × Int32 => z.1) (if_pos c_61)) 0) j0).trans ?_
        show (pr_row σ1 1 (cp_row (cp_row (σ 1) (σ 2) 5384) (σ1 1) 5384)) 0 j0 = σ1 0 j0
        rw [pr_row_ne (by decide)]
      · refine (congrFun (congrFun (congrArg (fun z : pr_I × Int32 => z.1) (if_neg c_61)) 0) j0).trans ?_
        rw [ih]
        rw [z8_m_ts hc]
        rw [fr_m_po (o := 0) (by decide)]
theorem z8_mf_ticksUntilAvailable {σ : pr_I} {k : Nat} {u : Int32} {j0 : Nat} (hc : j0 = 8 ∨ j0 = 13) : mf_ticksUntilAvailable σ k u 0 j0 = σ 0 j0 := by
  unfold mf_ticksUntilAvailable
  rw [z8_mf_ticksUntilAvailable_fl48 hc]
  rw [pr_row_ne (by decide)]
  first | rw [pr_upv (by decide)] | rw [pr_upk (by omega)]
theorem z8_mf_ticksUntilQuiet_fl28 {σ : pr_I} {j0 : Nat} (hc : j0 = 8 ∨ j0 = 13) : ∀ {j : Nat} {σ1 : pr_I} {x2 : Int32}, (mf_ticksUntilQuiet_fl28 σ j σ1 x2).1 0 j0 = σ1 0 j0 := by
  intro j
  induction j with
  | zero => intro _ _; rfl
  | succ j ih =>
    intro σ1 x2
    show ((if x2 = ((-1) : Int32) then ((pr_row σ1 1 (cp_row (cp_row (σ 1) (σ 2) 5384) (σ1 1) 5384)), (if x2 = ((-1) : Int32) then ((σ1 1 0) - (σ 1 0)) else ((-1) : Int32))) else (if (20000 : Int32) < (x2 - (σ 1 0)) then ((pr_row σ1 1 (cp_row (cp_row (σ 1) (σ 2) 5384) (σ1 1) 5384)), (if x2 = ((-1) : Int32) then ((σ1 1 0) - (σ 1 0)) else ((-1) : Int32))) else (mf_ticksUntilQuiet_fl28 σ j (m_ts (pr_up σ1 1 0 (x2 - (1 : Int32)))) (m_ne_r (m_ts (pr_up σ1 1 0 (x2 - (1 : Int32))))))))).1 0 j0 = σ1 0 j0
    by_cases c_30 : x2 = ((-1) : Int32)
    · refine (congrFun (congrFun (congrArg (fun z : pr_I × Int32 => z.1) (if_pos c_30)) 0) j0).trans ?_
      show (pr_row σ1 1 (cp_row (cp_row (σ 1) (σ 2) 5384) (σ1 1) 5384)) 0 j0 = σ1 0 j0
      rw [pr_row_ne (by decide)]
    · refine (congrFun (congrFun (congrArg (fun z : pr_I × Int32 => z.1) (if_neg c_30)) 0) j0).trans ?_
      by_cases c_39 : (20000 : Int32) < (x2 - (σ 1 0))
      · refine (congrFun (congrFun (congrArg (fun z : pr_I × Int32 => z.1) (if_pos c_39)) 0) j0).trans ?_
        show (pr_row σ1 1 (cp_row (cp_row (σ 1) (σ 2) 5384) (σ1 1) 5384)) 0 j0 = σ1 0 j0
        rw [pr_row_ne (by decide)]
      · refine (congrFun (congrFun (congrArg (fun z : pr_I × Int32 => z.1) (if_neg c_39)) 0) j0).trans ?_
        rw [ih]
        rw [z8_m_ts hc]
        first | rw [pr_upv (by decide)] | rw [pr_upk (by omega)]
theorem z8_mf_ticksUntilQuiet {σ : pr_I}  {j0 : Nat} (hc : j0 = 8 ∨ j0 = 13) : mf_ticksUntilQuiet σ 0 j0 = σ 0 j0 := by
  unfold mf_ticksUntilQuiet
  rw [z8_mf_ticksUntilQuiet_fl28 hc]
  rw [pr_row_ne (by decide)]
  first | rw [pr_upv (by decide)] | rw [pr_upk (by omega)]
theorem z8_mf_saveSnapshot0 {σ : pr_I}  {j0 : Nat} (hc : j0 = 8 ∨ j0 = 13) : mf_saveSnapshot0 σ 0 j0 = σ 0 j0 := by
  unfold mf_saveSnapshot0
  first | rw [pr_upv (by decide)] | rw [pr_upk (by omega)]
  rw [pr_row_ne (by decide)]
  first | rw [pr_upv (by decide)] | rw [pr_upk (by omega)]
theorem z8_mf_restoreSnapshot0 {σ : pr_I}  {j0 : Nat} (hc : j0 = 8 ∨ j0 = 13) : mf_restoreSnapshot0 σ 0 j0 = σ 0 j0 := by
  unfold mf_restoreSnapshot0
  by_cases c_16 : (σ 6 0) = 0
  · refine (congrFun (congrFun (if_pos c_16) 0) j0).trans ?_
    first | rw [pr_upv (by decide)] | rw [pr_upk (by omega)]
  · refine (congrFun (congrFun (if_neg c_16) 0) j0).trans ?_
    rw [pr_row_ne (by decide)]
    first | rw [pr_upv (by decide)] | rw [pr_upk (by omega)]
theorem z8_mf_saveSnapshot1 {σ : pr_I}  {j0 : Nat} (hc : j0 = 8 ∨ j0 = 13) : mf_saveSnapshot1 σ 0 j0 = σ 0 j0 := by
  unfold mf_saveSnapshot1
  first | rw [pr_upv (by decide)] | rw [pr_upk (by omega)]
  rw [pr_row_ne (by decide)]
  first | rw [pr_upv (by decide)] | rw [pr_upk (by omega)]
theorem z8_mf_restoreSnapshot1 {σ : pr_I}  {j0 : Nat} (hc : j0 = 8 ∨ j0 = 13) : mf_restoreSnapshot1 σ 0 j0 = σ 0 j0 := by
  unfold mf_restoreSnapshot1
  by_cases c_16 : (σ 6 1) = 0
  · refine (congrFun (congrFun (if_pos c_16) 0) j0).trans ?_
    first | rw [pr_upv (by decide)] | rw [pr_upk (by omega)]
  · refine (congrFun (congrFun (if_neg c_16) 0) j0).trans ?_
    rw [pr_row_ne (by decide)]
    first | rw [pr_upv (by decide)] | rw [pr_upk (by omega)]
