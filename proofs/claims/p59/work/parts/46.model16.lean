/-! THE REFERENCE'S FACE: what is asked of the arguments -/
theorem lg_lt0 {x y : Int64} : lg_cmp x y < 0 ↔ x < y := by
  unfold lg_cmp
  by_cases c : x > y
  · rw [if_pos c]
    constructor
    · intro h; exact absurd h (by decide)
    · intro h; have := Int64.lt_iff_toInt_lt.mp h; have := Int64.lt_iff_toInt_lt.mp c; omega
  · rw [if_neg c]
    by_cases e : x = y
    · rw [if_pos e]
      constructor
      · intro h; exact absurd h (by decide)
      · intro h; rw [e] at h; have := Int64.lt_iff_toInt_lt.mp h; omega
    · rw [if_neg e]
      constructor
      · intro _
        apply Int64.lt_iff_toInt_lt.mpr
        have h1 : ¬ y.toInt < x.toInt := fun q => c (Int64.lt_iff_toInt_lt.mpr q)
        have h2 : x.toInt ≠ y.toInt := fun q => e (Int64.toInt_inj.mp q)
        omega
      · intro _; decide
theorem lg_gt0 {x y : Int64} : 0 < lg_cmp x y ↔ y < x := by
  unfold lg_cmp
  by_cases c : x > y
  · rw [if_pos c]
    exact ⟨fun _ => c, fun _ => by decide⟩
  · rw [if_neg c]
    by_cases e : x = y
    · rw [if_pos e]
      exact ⟨fun h => absurd h (by decide), fun h => absurd h c⟩
    · rw [if_neg e]
      exact ⟨fun h => absurd h (by decide), fun h => absurd h c⟩
theorem in_1 {σ : pr_I} {a b c : Int64} (h1 : b ≤ a) (h2 : a ≤ c) : m_in_r σ a b c = 1 := by
  have q1 := Int64.le_iff_toInt_le.mp h1
  have q2 := Int64.le_iff_toInt_le.mp h2
  unfold m_in_r
  rw [if_neg (fun h => by have := Int64.lt_iff_toInt_lt.mp (lg_lt0.mp h); omega), if_neg (fun h => by have := Int64.lt_iff_toInt_lt.mp (lg_gt0.mp h); omega)]
theorem in_0 {σ : pr_I} {a b c : Int64} (h : a < b ∨ c < a) : m_in_r σ a b c = 0 := by
  unfold m_in_r
  by_cases q : lg_cmp a b < 0
  · rw [if_pos q]
  · rw [if_neg q]
    rcases h with h | h
    · exact absurd (lg_lt0.mpr h) q
    · rw [if_pos (lg_gt0.mpr h)]
theorem i64_le {a b : Int32} (h : a ≤ b) : a.toInt64 ≤ b.toInt64 := by
  rw [Int64.le_iff_toInt_le, Int32.toInt_toInt64, Int32.toInt_toInt64]; exact Int32.le_iff_toInt_le.mp h
theorem i64_lt {a b : Int32} (h : a < b) : a.toInt64 < b.toInt64 := by
  rw [Int64.lt_iff_toInt_lt, Int32.toInt_toInt64, Int32.toInt_toInt64]; exact Int32.lt_iff_toInt_lt.mp h
theorem in_z1 {σ : pr_I} {z a b : Int32} {A B : Int64} (h1 : a ≤ z) (h2 : z ≤ b) (eA : a.toInt64 = A) (eB : b.toInt64 = B) : m_in_r σ z.toInt64 A B = 1 := by
  subst eA; subst eB; exact in_1 (i64_le h1) (i64_le h2)
theorem in_z0 {σ : pr_I} {z a b : Int32} {A B : Int64} (h : z < a ∨ b < z) (eA : a.toInt64 = A) (eB : b.toInt64 = B) : m_in_r σ z.toInt64 A B = 0 := by
  subst eA; subst eB; exact in_0 (h.imp i64_lt i64_lt)
theorem nI_m1 {n : Nat} (hn : n < 2 ^ 31) : (nI n - 1).toInt = (n : Int) - 1 := by
  cases n with
  | zero => decide
  | succ k => rw [nI_pred]; have := Int32.toInt_ofNat_of_lt (n := k) (by omega); show (Int32.ofNat k).toInt = _; rw [this]; omega
theorem nI_toI {n : Nat} (hn : n < 2 ^ 31) : (nI n).toInt = n := Int32.toInt_ofNat_of_lt hn
theorem inK1 {σ : pr_I} {k n : Nat} (h : k < n) (hn : n < 2 ^ 31) : m_in_r σ (nI k).toInt64 0 (nI n - 1).toInt64 = 1 := by
  refine in_z1 (a := 0) (b := nI n - 1) ?_ ?_ (by decide) rfl
  · exact Int32.le_iff_toInt_le.mpr (by rw [nI_toI (by omega)]; show (0 : Int) ≤ _; omega)
  · exact Int32.le_iff_toInt_le.mpr (by rw [nI_toI (by omega), nI_m1 hn]; omega)
theorem in_c1 {σ : pr_I} {c B : Nat} {D : Int64} (h : c ≤ B) (hB : B < 2 ^ 31) (e : (nI B).toInt64 = D) : m_in_r σ (nI c).toInt64 0 D = 1 := in_z1 (a := 0) (b := nI B) (nI_r0 h hB).1 (nI_r0 h hB).2 (by decide) e
theorem inK0 {σ : pr_I} {x : Int32} {n : Nat} (h : ¬ vp_in x n) (hn : n < 2 ^ 31) : m_in_r σ x.toInt64 0 (nI n - 1).toInt64 = 0 := by
  refine in_z0 (a := 0) (b := nI n - 1) ?_ (by decide) rfl
  by_cases c : x < 0
  · exact Or.inl c
  · refine Or.inr (Int32.lt_iff_toInt_lt.mpr ?_)
    rw [nI_m1 hn]
    rcases Int.lt_or_le ((n : Int) - 1) x.toInt with q | q
    · exact q
    · exact absurd (vpi_of (Int32.not_lt.mp c) (by omega)) h
theorem ti_0 {σ : pr_I} {c : Int32} (h : σ 0 6 = 0) : m_ti_r σ 0 c = 0 ∧ m_ti σ 0 c = σ := by
  unfold m_ti_r m_ti
  rw [if_pos h, if_pos rfl, if_pos h, if_pos h, if_pos rfl]; exact ⟨rfl, rfl⟩
theorem ti_1 {σ : pr_I} {c : Int32} (h : σ 0 6 = 0) (hc : c ≠ 0) : m_ti_r σ 1 c = 1 ∧ m_ti σ 1 c = pr_up σ 0 6 c := by
  unfold m_ti_r m_ti
  rw [if_pos h, if_neg (by decide), if_neg hc, if_pos h, if_neg (by decide)]; exact ⟨rfl, rfl⟩
theorem pr_up_two {σ : pr_I} {o k : Nat} {u v : Int32} : pr_up (pr_up σ o k u) o k v = pr_up σ o k v := by
  funext b j; unfold pr_up; by_cases c : b = o ∧ j = k <;> simp [c]