/-! THE REFERENCE'S FACE: the text -/
theorem mW_pos {j B : Nat} (h : mW j = some B) : 0 < B ∧ B < 2 ^ 31 ∧ ¬ (1 ≤ j ∧ j ≤ 5) := by
  unfold mW mS mN mL mR mT at h
  (repeat' split at h) <;> first | (cases h; omega) | cases h
theorem bg_in {h : Nat → Int32} : ∀ k B, mW k = some B → vp_in (bg_row h k) B := fun k B q => by
  obtain ⟨h1, h2, h3⟩ := mW_pos q
  have h4 := mW_lt q
  unfold bg_row
  rw [if_neg (by omega), if_neg (by omega), if_neg (by omega), if_neg (by omega), if_neg (by omega), if_pos h4]
  exact nI_vin (k := 0) h1 h2
theorem mI.bg {σ : pr_I} {b : Nat} {g : Nat → Int32} (h : mI σ) (h1 : 0 < b) (h2 : b < 6) : mI (pr_row σ b (bg_row g)) := mI.row h (fun k B q => bg_in k B (mB_row h1 h2 q))
theorem hrk {σ : pr_I} {n : Nat} (hI : mI σ) (hn : σ 0 8 = nI n) : rk n (pr_up (pr_up (pr_row (pr_up σ 0 6 (0 : Int32)) 3 (bg_row (σ 3))) 0 9 (0 : Int32)) 0 12 (0 : Int32)) := ⟨(pr_upk (by decide)).trans ((pr_upk (by decide)).trans ((pr_rwv (by decide)).trans ((pr_upk (by decide)).trans hn))), pr_upe, mI.upn (mI.upn (mI.bg (mI.upn hI rfl) (by decide) (by decide)) rfl) rfl⟩
theorem hpt0 {σ : pr_I} : m_pt (pr_up (pr_up (pr_row (pr_up σ 0 6 (0 : Int32)) 3 (bg_row (σ 3))) 0 9 (0 : Int32)) 0 12 (0 : Int32)) = 0 := by
  unfold m_pt
  rw [show (pr_up (pr_up (pr_row (pr_up σ 0 6 (0 : Int32)) 3 (bg_row (σ 3))) 0 9 (0 : Int32)) 0 12 (0 : Int32)) 0 9 = (0 : Int32) from (pr_upk (by decide)).trans pr_upe]; rfl
noncomputable def mf_load_r (σ : pr_I) (n : Nat) : Int32 := (if (m_ra_r (pr_up (pr_up (pr_row (pr_up σ 0 6 (0 : Int32)) 3 (bg_row (σ 3))) 0 9 (0 : Int32)) 0 12 (0 : Int32)) n) = 0 then (((-100) : Int32) - ((m_ra (pr_up (pr_up (pr_row (pr_up σ 0 6 (0 : Int32)) 3 (bg_row (σ 3))) 0 9 (0 : Int32)) 0 12 (0 : Int32)) n) 0 11)) else ((cp_row ((m_ra (pr_up (pr_up (pr_row (pr_up σ 0 6 (0 : Int32)) 3 (bg_row (σ 3))) 0 9 (0 : Int32)) 0 12 (0 : Int32)) n) 3) (σ 1) 5384) 7))
noncomputable def mf_load (σ : pr_I) (n : Nat) : pr_I := (if (m_ra_r (pr_up (pr_up (pr_row (pr_up σ 0 6 (0 : Int32)) 3 (bg_row (σ 3))) 0 9 (0 : Int32)) 0 12 (0 : Int32)) n) = 0 then (pr_up (pr_up (m_ra (pr_up (pr_up (pr_row (pr_up σ 0 6 (0 : Int32)) 3 (bg_row (σ 3))) 0 9 (0 : Int32)) 0 12 (0 : Int32)) n) 0 8 (0 : Int32)) 0 13 ((m_ra (pr_up (pr_up (pr_row (pr_up σ 0 6 (0 : Int32)) 3 (bg_row (σ 3))) 0 9 (0 : Int32)) 0 12 (0 : Int32)) n) 0 12)) else (pr_row (pr_up (pr_up (m_ra (pr_up (pr_up (pr_row (pr_up σ 0 6 (0 : Int32)) 3 (bg_row (σ 3))) 0 9 (0 : Int32)) 0 12 (0 : Int32)) n) 0 8 (0 : Int32)) 0 13 ((m_ra (pr_up (pr_up (pr_row (pr_up σ 0 6 (0 : Int32)) 3 (bg_row (σ 3))) 0 9 (0 : Int32)) 0 12 (0 : Int32)) n) 0 12)) 1 (cp_row ((m_ra (pr_up (pr_up (pr_row (pr_up σ 0 6 (0 : Int32)) 3 (bg_row (σ 3))) 0 9 (0 : Int32)) 0 12 (0 : Int32)) n) 3) (σ 1) 5384)))
theorem fr_mf_load {σ : pr_I} {n : Nat} {o : Nat} (hms : ∀ m ∈ ([0, 1, 3] : List Nat), o ≠ m) : mf_load σ n o = σ o := by
  unfold mf_load
  simp only [List.mem_cons, List.not_mem_nil, or_false, forall_eq_or_imp, forall_eq] at hms
  by_cases c_41 : (m_ra_r (pr_up (pr_up (pr_row (pr_up σ 0 6 (0 : Int32)) 3 (bg_row (σ 3))) 0 9 (0 : Int32)) 0 12 (0 : Int32)) n) = 0
  · refine (congrFun (if_pos c_41) o).trans ?_
    rw [pr_up_ne (by omega), pr_up_ne (by omega), fr_m_ra (by simp only [List.mem_cons, List.not_mem_nil, or_false, forall_eq_or_imp, forall_eq]; omega), pr_up_ne (by omega), pr_up_ne (by omega), pr_row_ne (by omega), pr_up_ne (by omega)]
  · refine (congrFun (if_neg c_41) o).trans ?_
    rw [pr_row_ne (by omega), pr_up_ne (by omega), pr_up_ne (by omega), fr_m_ra (by simp only [List.mem_cons, List.not_mem_nil, or_false, forall_eq_or_imp, forall_eq]; omega), pr_up_ne (by omega), pr_up_ne (by omega), pr_row_ne (by omega), pr_up_ne (by omega)]

noncomputable def mf_loadError_r (σ : pr_I) : Int32 := (σ 0 13)
noncomputable def mf_loadError (σ : pr_I) : pr_I := (pr_up σ 0 6 (0 : Int32))
theorem fr_mf_loadError {σ : pr_I}  {o : Nat} (hms : ∀ m ∈ ([0] : List Nat), o ≠ m) : mf_loadError σ o = σ o := by
  unfold mf_loadError
  simp only [List.mem_cons, List.not_mem_nil, or_false, forall_eq_or_imp, forall_eq] at hms
  rw [pr_up_ne (by omega)]

theorem nm_in {σ : pr_I} {z : Int32} {k : Nat} (hI : mI σ) (hk : k < 12) (h : ¬ m_in_r (pr_up σ 0 6 0) z.toInt64 0 (σ 1 (12 + 7 * k) - 1).toInt64 = 0) : vp_in z 6 := pl_in2 (by decide) (hI 1 (12 + 7 * k) 7 ((mW_node (k := k) (c := 0) hk (by decide)).trans rfl)) h
noncomputable def mf_nameLetter_r (σ : pr_I) (k : Nat) (z : Int32) : Int32 := (if (m_in_r (pr_up σ 0 6 (0 : Int32)) ((z).toInt64) (0 : Int64) ((((σ 1 (12 + 7 * k)) - (1 : Int32))).toInt64)) = 0 then ((-1) : Int32) else (σ 1 (((12 + 7 * k) + 1) + z.toNatClampNeg)))
noncomputable def mf_nameLetter (σ : pr_I) (k : Nat) (z : Int32) : pr_I := (if (m_in_r (pr_up σ 0 6 (0 : Int32)) ((z).toInt64) (0 : Int64) ((((σ 1 (12 + 7 * k)) - (1 : Int32))).toInt64)) = 0 then (pr_up σ 0 6 (0 : Int32)) else (pr_up σ 0 6 (0 : Int32)))
theorem fr_mf_nameLetter {σ : pr_I} {k : Nat} {z : Int32} {o : Nat} (hms : ∀ m ∈ ([0] : List Nat), o ≠ m) : mf_nameLetter σ k z o = σ o := by
  unfold mf_nameLetter
  simp only [List.mem_cons, List.not_mem_nil, or_false, forall_eq_or_imp, forall_eq] at hms
  by_cases c_51 : (m_in_r (pr_up σ 0 6 (0 : Int32)) ((z).toInt64) (0 : Int64) ((((σ 1 (12 + 7 * k)) - (1 : Int32))).toInt64)) = 0
  · refine (congrFun (if_pos c_51) o).trans ?_
    rw [pr_up_ne (by omega)]
  · refine (congrFun (if_neg c_51) o).trans ?_
    rw [pr_up_ne (by omega)]

noncomputable def mf_nodeNamed_it9 (σ : pr_I) (n : Nat) : Nat → Int32
  | 0 => ((-1) : Int32)
  | k + 1 => (if (6 : Int32) < (nI n) then (mf_nodeNamed_it9 σ n k) else (if (inm (σ 1) (σ 7) k 0 n) = 0 then (mf_nodeNamed_it9 σ n k) else (nI k)))
noncomputable def mf_nodeNamed_r (σ : pr_I) (n : Nat) : Int32 := (mf_nodeNamed_it9 σ n (mnn σ))
noncomputable def mf_nodeNamed (σ : pr_I) (n : Nat) : pr_I := (pr_up (pr_up σ 0 6 (0 : Int32)) 0 8 (0 : Int32))
theorem fr_mf_nodeNamed {σ : pr_I} {n : Nat} {o : Nat} (hms : ∀ m ∈ ([0] : List Nat), o ≠ m) : mf_nodeNamed σ n o = σ o := by
  unfold mf_nodeNamed
  simp only [List.mem_cons, List.not_mem_nil, or_false, forall_eq_or_imp, forall_eq] at hms
  rw [pr_up_ne (by omega), pr_up_ne (by omega)]

noncomputable def mf_append_it11 (σ : pr_I) (n : Nat) (q : Int64) : Nat → Int32 × Int32
  | 0 => ((0 : Int32), (56 : Int32))
  | k + 1 => (if ((mf_append_it11 σ n q k).2) < 0 then (((mf_append_it11 σ n q k).1), ((mf_append_it11 σ n q k).2)) else ((((mf_append_it11 σ n q k).1) + (if (lg_cmp ((q.toUInt64 >>> ((((mf_append_it11 σ n q k).2)).toInt64.toUInt64 &&& Int64.toUInt64 63)).toInt64 &&& (255 : Int64)) (0 : Int64)) = 0 then (0 : Int32) else (1 : Int32))), (((mf_append_it11 σ n q k).2) + Int32.ofInt (-8))))
noncomputable def mf_append_it11_e (σ : pr_I) (n : Nat) (q : Int64) (k : Nat) : Bool := (if ((mf_append_it11 σ n q k).2) < 0 then true else false)
theorem st_mf_append_it11_13 {σ : pr_I} {n : Nat} {q : Int64} {k : Nat} (c_13 : ((mf_append_it11 σ n q k).2) < 0) : ∀ j, mf_append_it11 σ n q (k + j) = mf_append_it11 σ n q k
  | 0 => rfl
  | j + 1 => by
    have ih := st_mf_append_it11_13 c_13 j
    show mf_append_it11 σ n q ((k + j) + 1) = mf_append_it11 σ n q k
    simp only [mf_append_it11, ih, if_pos c_13]
noncomputable def mf_append_it62 (σ : pr_I) (n : Nat) (q : Int64) : Nat → pr_I × Int32
  | 0 => ((pr_up σ 0 6 (0 : Int32)), (56 : Int32))
  | k + 1 => (if ((mf_append_it62 σ n q k).2) < 0 then ((mf_append_it62 σ n q k).1, ((mf_append_it62 σ n q k).2)) else (if (((q.toUInt64 >>> ((((mf_append_it62 σ n q k).2)).toInt64.toUInt64 &&& Int64.toUInt64 63)).toInt64 &&& (255 : Int64))).toInt32 = 0 then ((mf_append_it62 σ n q k).1, (((mf_append_it62 σ n q k).2) + Int32.ofInt (-8))) else ((pr_up (pr_up (mf_append_it62 σ n q k).1 7 (((mf_append_it62 σ n q k).1 0 8).toNatClampNeg) ((((q.toUInt64 >>> ((((mf_append_it62 σ n q k).2)).toInt64.toUInt64 &&& Int64.toUInt64 63)).toInt64 &&& (255 : Int64))).toInt32)) 0 8 (((mf_append_it62 σ n q k).1 0 8) + (1 : Int32))), (((mf_append_it62 σ n q k).2) + Int32.ofInt (-8)))))
theorem fr_mf_append_it62 {σ : pr_I} {n : Nat} {q : Int64} {o : Nat} (hms : ∀ m ∈ ([0, 7] : List Nat), o ≠ m) : ∀ {k : Nat}, (mf_append_it62 σ n q k).1 o = (pr_up σ 0 6 (0 : Int32)) o := by
  simp only [List.mem_cons, List.not_mem_nil, or_false, forall_eq_or_imp, forall_eq] at hms
  intro k
  induction k with
  | zero =>
    show (pr_up σ 0 6 (0 : Int32)) o = (pr_up σ 0 6 (0 : Int32)) o
    rfl
  | succ k ih =>
    by_cases c_64 : ((mf_append_it62 σ n q k).2) < 0
    · refine (congrFun (congrArg (fun z : pr_I × Int32 => z.1) (if_pos c_64)) o).trans ?_
      show (mf_append_it62 σ n q k).1 o = (pr_up σ 0 6 (0 : Int32)) o
      rw [ih]
    · refine (congrFun (congrArg (fun z : pr_I × Int32 => z.1) (if_neg c_64)) o).trans ?_
      by_cases c_80 : (((q.toUInt64 >>> ((((mf_append_it62 σ n q k).2)).toInt64.toUInt64 &&& Int64.toUInt64 63)).toInt64 &&& (255 : Int64))).toInt32 = 0
      · refine (congrFun (congrArg (fun z : pr_I × Int32 => z.1) (if_pos c_80)) o).trans ?_
        show (mf_append_it62 σ n q k).1 o = (pr_up σ 0 6 (0 : Int32)) o
        rw [ih]
      · refine (congrFun (congrArg (fun z : pr_I × Int32 => z.1) (if_neg c_80)) o).trans ?_
        show (pr_up (pr_up (mf_append_it62 σ n q k).1 7 (((mf_append_it62 σ n q k).1 0 8).toNatClampNeg) ((((q.toUInt64 >>> ((((mf_append_it62 σ n q k).2)).toInt64.toUInt64 &&& Int64.toUInt64 63)).toInt64 &&& (255 : Int64))).toInt32)) 0 8 (((mf_append_it62 σ n q k).1 0 8) + (1 : Int32))) o = (pr_up σ 0 6 (0 : Int32)) o
        rw [pr_up_ne (by omega), pr_up_ne (by omega), ih]

noncomputable def mf_append_it62_e (σ : pr_I) (n : Nat) (q : Int64) (k : Nat) : Bool := (if ((mf_append_it62 σ n q k).2) < 0 then true else (if (((q.toUInt64 >>> ((((mf_append_it62 σ n q k).2)).toInt64.toUInt64 &&& Int64.toUInt64 63)).toInt64 &&& (255 : Int64))).toInt32 = 0 then false else false))
theorem st_mf_append_it62_64 {σ : pr_I} {n : Nat} {q : Int64} {k : Nat} (c_64 : ((mf_append_it62 σ n q k).2) < 0) : ∀ j, mf_append_it62 σ n q (k + j) = mf_append_it62 σ n q k
  | 0 => rfl
  | j + 1 => by
    have ih := st_mf_append_it62_64 c_64 j
    show mf_append_it62 σ n q ((k + j) + 1) = mf_append_it62 σ n q k
    simp only [mf_append_it62, ih, if_pos c_64]
noncomputable def mf_append_r (σ : pr_I) (n : Nat) (q : Int64) : Int32 := (if ((nI n) + ((mf_append_it11 σ n q (sl 8)).1)) ≤ (700 : Int32) then ((mf_append_it62 σ n q (sl 8)).1 0 8) else ((-2) : Int32))
noncomputable def mf_append (σ : pr_I) (n : Nat) (q : Int64) : pr_I := (if ((nI n) + ((mf_append_it11 σ n q (sl 8)).1)) ≤ (700 : Int32) then (mf_append_it62 σ n q (sl 8)).1 else (pr_up σ 0 6 (0 : Int32)))
theorem ap_s1 {σ : pr_I} {n : Nat} {q : Int64} : ∀ k, k ≤ 8 → (mf_append_it11 σ n q k).2 = ad_sh k
  | 0, _ => by unfold ad_sh; rfl
  | k + 1, h => by
    have ih := ap_s1 (σ := σ) (n := n) (q := q) k (by omega)
    simp only [mf_append_it11, ih, if_neg (ad_sh_s k (by omega)).1, (ad_sh_s k (by omega)).2, apply_ite Prod.snd, ite_self]
theorem ap_e1 {σ : pr_I} {n : Nat} {q : Int64} : mf_append_it11_e σ n q (sl 8) = true := by
  rw [sl_eq]; unfold mf_append_it11_e; rw [ap_s1 8 (by omega), if_pos ad_sh_8]
theorem ap_s2 {σ : pr_I} {n : Nat} {q : Int64} : ∀ k, k ≤ 8 → (mf_append_it62 σ n q k).2 = ad_sh k
  | 0, _ => by unfold ad_sh; rfl
  | k + 1, h => by
    have ih := ap_s2 (σ := σ) (n := n) (q := q) k (by omega)
    simp only [mf_append_it62, ih, if_neg (ad_sh_s k (by omega)).1, (ad_sh_s k (by omega)).2, apply_ite Prod.snd, ite_self]
theorem ap_e2 {σ : pr_I} {n : Nat} {q : Int64} : mf_append_it62_e σ n q (sl 8) = true := by
  rw [sl_eq]; unfold mf_append_it62_e
  rw [ap_s2 8 (by omega), if_pos ad_sh_8]
theorem fr_mf_append {σ : pr_I} {n : Nat} {q : Int64} {o : Nat} (hms : ∀ m ∈ ([0, 7] : List Nat), o ≠ m) : mf_append σ n q o = σ o := by
  unfold mf_append
  simp only [List.mem_cons, List.not_mem_nil, or_false, forall_eq_or_imp, forall_eq] at hms
  by_cases c_52 : ((nI n) + ((mf_append_it11 σ n q (sl 8)).1)) ≤ (700 : Int32)
  · refine (congrFun (if_pos c_52) o).trans ?_
    rw [fr_mf_append_it62 (by simp only [List.mem_cons, List.not_mem_nil, or_false, forall_eq_or_imp, forall_eq]; omega), pr_up_ne (by omega)]
  · refine (congrFun (if_neg c_52) o).trans ?_
    rw [pr_up_ne (by omega)]

