theorem mI_m_ts {σ : pr_I} (hI : mI σ) (htr : ∀ k, k < mrn σ → m_tr_ok (m_ts_it110 σ k) k) : mI (m_ts σ) := mI_m_ts_it110 hI htr _ (Nat.le_refl _)
def m_ts_ok (σ : pr_I) : Prop := ∀ k, k < mrn σ → m_tr_ok (m_ts_it110 σ k) k
theorem mR_pos {c B : Nat} (h : mR c = some B) : 0 < B ∧ B < 2 ^ 31 := by
  unfold mR at h
  (repeat' split at h) <;> first | (cases h; decide) | cases h
theorem mI.up0 {σ : pr_I} {o k : Nat} (h : mI σ) (hp : ∀ B, mB o k = some B → 0 < B ∧ B < 2 ^ 31) : mI (pr_up σ o k 0) := fun o' k' B q => by
  unfold pr_up
  by_cases c : o' = o ∧ k' = k
  · rw [if_pos c]
    rw [c.1, c.2] at q
    exact nI_vin (k := 0) (hp B q).1 (hp B q).2
  · rw [if_neg c]; exact h o' k' B q
noncomputable def m_mk_it12 (σ : pr_I) (s : Int32) (t : Int32) (u : Int32) (q : Int32) : Nat → pr_I
  | 0 => σ
  | k + 1 => (pr_up (m_mk_it12 σ s t u q k) 1 (264 + 28 * (mrn σ) + k) (0 : Int32))
theorem fr_m_mk_it12 {σ : pr_I} {s : Int32} {t : Int32} {u : Int32} {q : Int32} {o : Nat} (hms : ∀ m ∈ ([1] : List Nat), o ≠ m) : ∀ {k : Nat}, (m_mk_it12 σ s t u q k) o = σ o := by
  simp only [List.mem_cons, List.not_mem_nil, or_false, forall_eq_or_imp, forall_eq] at hms
  intro k
  induction k with
  | zero =>
    show σ o = σ o
    rfl
  | succ k ih =>
    show (pr_up (m_mk_it12 σ s t u q k) 1 (264 + 28 * (mrn σ) + k) (0 : Int32)) o = σ o
    rw [pr_up_ne (by omega), ih]
theorem fw_m_mk_it12 {σ : pr_I} {s : Int32} {t : Int32} {u : Int32} {q : Int32} {j0 : Nat} (hj : j0 < 12) (hmw : ∀ m ∈ ([] : List Nat), j0 ≠ m) : ∀ {k : Nat}, (m_mk_it12 σ s t u q k) 1 j0 = σ 1 j0 := by
  intro k
  induction k with
  | zero => rfl
  | succ k ih =>
    show (pr_up (m_mk_it12 σ s t u q k) 1 (264 + 28 * (mrn σ) + k) (0 : Int32)) 1 j0 = σ 1 j0
    exact ((pr_upk (by omega)).trans ih)

noncomputable def m_mk_r (σ : pr_I) (s : Int32) (t : Int32) (u : Int32) (q : Int32) : Int32 := (nI (mrn σ))
noncomputable def m_mk (σ : pr_I) (s : Int32) (t : Int32) (u : Int32) (q : Int32) : pr_I := (m_tr (m_at (pr_up (pr_up (pr_up (pr_up (pr_up (pr_up (pr_up (pr_up (m_mk_it12 σ s t u q 28) 1 (264 + 28 * (mrn σ) + 0) s) 1 (264 + 28 * (mrn σ) + 1) t) 1 (264 + 28 * (mrn σ) + 2) u) 1 (264 + 28 * (mrn σ) + 3) q) 1 (264 + 28 * (mrn σ) + 10) ((-1) : Int32)) 1 (264 + 28 * (mrn σ) + 11) ((-1) : Int32)) 1 (264 + 28 * (mrn σ) + 12) ((-1) : Int32)) 1 8 (nI ((mrn σ) + 1))) (mrn σ)) (mrn σ))
theorem mI_m_mk_it12 {σ : pr_I} {s t u q : Int32} (hI : mI σ) (hr40 : mrn σ < 40) : ∀ k, k ≤ 28 → mI (m_mk_it12 σ s t u q k)
  | 0, _ => hI
  | k + 1, hk => mI.up0 (mI_m_mk_it12 hI hr40 k (by omega)) (fun B q => mR_pos ((mW_req (k := mrn σ) (c := k) hr40 (by omega)).symm.trans q))
theorem fr_m_mk {σ : pr_I} {s : Int32} {t : Int32} {u : Int32} {q : Int32} {o : Nat} (hms : ∀ m ∈ ([0, 1, 8, 9, 10] : List Nat), o ≠ m) : m_mk σ s t u q o = σ o := by
  unfold m_mk
  simp only [List.mem_cons, List.not_mem_nil, or_false, forall_eq_or_imp, forall_eq] at hms
  rw [fr_m_tr (by simp only [List.mem_cons, List.not_mem_nil, or_false, forall_eq_or_imp, forall_eq]; omega), fr_m_at (by simp only [List.mem_cons, List.not_mem_nil, or_false, forall_eq_or_imp, forall_eq]; omega), pr_up_ne (by omega), pr_up_ne (by omega), pr_up_ne (by omega), pr_up_ne (by omega), pr_up_ne (by omega), pr_up_ne (by omega), pr_up_ne (by omega), pr_up_ne (by omega), fr_m_mk_it12 (by simp only [List.mem_cons, List.not_mem_nil, or_false, forall_eq_or_imp, forall_eq]; omega)]

theorem fw_m_mk {σ : pr_I} {s : Int32} {t : Int32} {u : Int32} {q : Int32} {j0 : Nat} (hj : j0 < 12) (hmw : ∀ m ∈ ([8, 9] : List Nat), j0 ≠ m) : m_mk σ s t u q 1 j0 = σ 1 j0 := by
  simp only [List.mem_cons, List.not_mem_nil, or_false, forall_eq_or_imp, forall_eq] at hmw
  unfold m_mk
  exact ((fw_m_tr hj (by simp only [List.mem_cons, List.not_mem_nil, or_false, forall_eq_or_imp, forall_eq]; omega)).trans ((fw_m_at hj (fun m hm => by cases hm)).trans ((pr_upk (by omega)).trans ((pr_upk (by omega)).trans ((pr_upk (by omega)).trans ((pr_upk (by omega)).trans ((pr_upk (by omega)).trans ((pr_upk (by omega)).trans ((pr_upk (by omega)).trans ((pr_upk (by omega)).trans (fw_m_mk_it12 hj (fun m hm => by cases hm))))))))))))
noncomputable def m_mk0 (σ : pr_I) (s t u q : Int32) : pr_I := (pr_up (pr_up (pr_up (pr_up (pr_up (pr_up (pr_up (pr_up (m_mk_it12 σ s t u q 28) 1 (264 + 28 * (mrn σ) + 0) s) 1 (264 + 28 * (mrn σ) + 1) t) 1 (264 + 28 * (mrn σ) + 2) u) 1 (264 + 28 * (mrn σ) + 3) q) 1 (264 + 28 * (mrn σ) + 10) ((-1) : Int32)) 1 (264 + 28 * (mrn σ) + 11) ((-1) : Int32)) 1 (264 + 28 * (mrn σ) + 12) ((-1) : Int32)) 1 8 (nI ((mrn σ) + 1)))
def m_mk_ok (σ : pr_I) (s t u q : Int32) : Prop := m_at_ok (pr_up (pr_up (pr_up (pr_up (pr_up (pr_up (pr_up (pr_up (m_mk_it12 σ s t u q 28) 1 (264 + 28 * (mrn σ) + 0) s) 1 (264 + 28 * (mrn σ) + 1) t) 1 (264 + 28 * (mrn σ) + 2) u) 1 (264 + 28 * (mrn σ) + 3) q) 1 (264 + 28 * (mrn σ) + 10) ((-1) : Int32)) 1 (264 + 28 * (mrn σ) + 11) ((-1) : Int32)) 1 (264 + 28 * (mrn σ) + 12) ((-1) : Int32)) 1 8 (nI ((mrn σ) + 1))) (mrn σ) ∧ m_tr_ok (m_at (pr_up (pr_up (pr_up (pr_up (pr_up (pr_up (pr_up (pr_up (m_mk_it12 σ s t u q 28) 1 (264 + 28 * (mrn σ) + 0) s) 1 (264 + 28 * (mrn σ) + 1) t) 1 (264 + 28 * (mrn σ) + 2) u) 1 (264 + 28 * (mrn σ) + 3) q) 1 (264 + 28 * (mrn σ) + 10) ((-1) : Int32)) 1 (264 + 28 * (mrn σ) + 11) ((-1) : Int32)) 1 (264 + 28 * (mrn σ) + 12) ((-1) : Int32)) 1 8 (nI ((mrn σ) + 1))) (mrn σ)) (mrn σ)
theorem mI_m_mk {σ : pr_I} {s t u q : Int32} (hI : mI σ) (hs : vp_in s 12) (ht : vp_in t 12) (hr40 : mrn σ < 40) (hok : m_mk_ok σ s t u q) : mI (m_mk σ s t u q) := by
  have hat := hok.1
  have htr := hok.2
  unfold m_mk
  exact mI_m_tr (by omega) htr.1 htr.2.1 htr.2.2.1 (mI_m_at (by omega) hat.2.2.2 (mI.upv (mI.upn (mI.upn (mI.upn (mI.upn (mI.upn (mI.upv (mI.upv (mI_m_mk_it12 hI hr40 28 (by omega)) ((mW_req (k := mrn σ) (c := 0) (by omega) (by decide)).trans rfl) hs) ((mW_req (k := mrn σ) (c := 1) (by omega) (by decide)).trans rfl) ht) ((mW_req (k := mrn σ) (c := 2) (by omega) (by decide)).trans rfl)) ((mW_req (k := mrn σ) (c := 3) (by omega) (by decide)).trans rfl)) ((mW_req (k := mrn σ) (c := 10) (by omega) (by decide)).trans rfl)) ((mW_req (k := mrn σ) (c := 11) (by omega) (by decide)).trans rfl)) ((mW_req (k := mrn σ) (c := 12) (by omega) (by decide)).trans rfl)) rfl (nI_vin (by omega) (by decide))))
theorem mI_m_po {σ : pr_I} {z : Int32} (hI : mI σ) : mI (m_po σ z) := by
  unfold m_po
  exact mI.upn hI rfl
