/-! READING: where words and numbers end, in words of the text b of the length n -/
def bt (b : Nat → Int32) (n k : Nat) : Int32 := if k < n then b k else -1
def isl (b : Nat → Int32) (n k : Nat) : Prop := k < n ∧ (97 : Int32) ≤ b k ∧ b k ≤ (122 : Int32)
def isd (b : Nat → Int32) (n k : Nat) : Prop := k < n ∧ (48 : Int32) ≤ b k ∧ b k ≤ (57 : Int32)
noncomputable def il (b : Nat → Int32) (n k : Nat) : Int32 := by classical exact if isl b n k then 1 else 0
noncomputable def idg (b : Nat → Int32) (n k : Nat) : Int32 := by classical exact if isd b n k then 1 else 0
theorem il_1 {b : Nat → Int32} {n k : Nat} (h : isl b n k) : il b n k = 1 := by classical exact if_pos h
theorem il_0 {b : Nat → Int32} {n k : Nat} (h : ¬ isl b n k) : il b n k = 0 := by classical exact if_neg h
theorem idg_1 {b : Nat → Int32} {n k : Nat} (h : isd b n k) : idg b n k = 1 := by classical exact if_pos h
theorem idg_0 {b : Nat → Int32} {n k : Nat} (h : ¬ isd b n k) : idg b n k = 0 := by classical exact if_neg h
theorem il_t {b : Nat → Int32} {n k : Nat} (h : ¬ il b n k = 0) : isl b n k := Classical.byContradiction (fun q => h (il_0 q))
theorem il_f {b : Nat → Int32} {n k : Nat} (h : il b n k = 0) : ¬ isl b n k := fun q => by rw [il_1 q] at h; exact absurd h (by decide)
theorem idg_t {b : Nat → Int32} {n k : Nat} (h : ¬ idg b n k = 0) : isd b n k := Classical.byContradiction (fun q => h (idg_0 q))
theorem idg_f {b : Nat → Int32} {n k : Nat} (h : idg b n k = 0) : ¬ isd b n k := fun q => by rw [idg_1 q] at h; exact absurd h (by decide)
/-- behind the spaces -/
noncomputable def sk_f (b : Nat → Int32) (n : Nat) : Nat → Nat → Nat
  | 0, p => p
  | j + 1, p => if p < n ∧ b p = 32 then sk_f b n j (p + 1) else p
noncomputable def sk (b : Nat → Int32) (n p : Nat) : Nat := sk_f b n (n - p) p
theorem sk_step {b : Nat → Int32} {n p : Nat} (h : p < n) (h2 : b p = 32) : sk b n p = sk b n (p + 1) := by
  unfold sk
  rw [show n - p = (n - (p + 1)) + 1 from by omega]
  show (if p < n ∧ b p = 32 then sk_f b n (n - (p + 1)) (p + 1) else p) = _
  rw [if_pos ⟨h, h2⟩]
theorem sk_stop {b : Nat → Int32} {n p : Nat} (h : ¬ (p < n ∧ b p = 32)) : sk b n p = p := by
  unfold sk
  cases e : n - p with
  | zero => rfl
  | succ j =>
    show (if p < n ∧ b p = 32 then sk_f b n j (p + 1) else p) = _
    rw [if_neg h]
/-- where the word that begins at p ends -/
noncomputable def we_f (b : Nat → Int32) (n : Nat) : Nat → Nat → Nat
  | 0, p => p
  | j + 1, p => if il b n p = 0 then p else we_f b n j (p + 1)
noncomputable def we (b : Nat → Int32) (n p : Nat) : Nat := we_f b n (n - p) p
theorem we_step {b : Nat → Int32} {n p : Nat} (h : isl b n p) : we b n p = we b n (p + 1) := by
  unfold we
  have := h.1
  rw [show n - p = (n - (p + 1)) + 1 from by omega]
  show (if il b n p = 0 then p else we_f b n (n - (p + 1)) (p + 1)) = _
  rw [il_1 h]; rfl
theorem we_stop {b : Nat → Int32} {n p : Nat} (h : ¬ isl b n p) : we b n p = p := by
  unfold we
  cases e : n - p with
  | zero => rfl
  | succ j =>
    show (if il b n p = 0 then p else we_f b n j (p + 1)) = _
    rw [if_pos (il_0 h)]
theorem ge_of_f {f : Nat → Nat → Nat} (h0 : ∀ p, f 0 p = p) (hs : ∀ j p, f (j + 1) p = p ∨ f (j + 1) p = f j (p + 1)) : ∀ j p, p ≤ f j p ∧ f j p ≤ p + j
  | 0, p => by rw [h0]; omega
  | j + 1, p => by
    have ih := ge_of_f h0 hs j (p + 1)
    rcases hs j p with e | e <;> rw [e] <;> omega
theorem sk_le {b : Nat → Int32} {n p : Nat} (h : p ≤ n) : p ≤ sk b n p ∧ sk b n p ≤ n := by
  have := ge_of_f (f := sk_f b n) (fun _ => rfl) (fun j p => by
    show (if p < n ∧ b p = 32 then sk_f b n j (p + 1) else p) = p ∨ (if p < n ∧ b p = 32 then sk_f b n j (p + 1) else p) = _
    by_cases c : p < n ∧ b p = 32
    · rw [if_pos c]; exact Or.inr rfl
    · rw [if_neg c]; exact Or.inl rfl) (n - p) p
  unfold sk; omega
theorem we_le {b : Nat → Int32} {n p : Nat} (h : p ≤ n) : p ≤ we b n p ∧ we b n p ≤ n := by
  have := ge_of_f (f := we_f b n) (fun _ => rfl) (fun j p => by
    show (if il b n p = 0 then p else we_f b n j (p + 1)) = p ∨ (if il b n p = 0 then p else we_f b n j (p + 1)) = _
    by_cases c : il b n p = 0
    · rw [if_pos c]; exact Or.inl rfl
    · rw [if_neg c]; exact Or.inr rfl) (n - p) p
  unfold we; omega
/-- where the number at p ends, and its value -/
noncomputable def nu_f (b : Nat → Int32) (n : Nat) : Nat → Nat → Int64 → Nat × Int64
  | 0, p, v => (p, v)
  | j + 1, p, v => if idg b n p = 0 then (p, v) else nu_f b n j (p + 1) (if (((10 : Int64) * v) + (bt b n p).toInt64) - (48 : Int64) < (1000000 : Int64) then (((10 : Int64) * v) + (bt b n p).toInt64) - (48 : Int64) else (1000000 : Int64))
noncomputable def nu (b : Nat → Int32) (n p : Nat) (v : Int64) : Nat × Int64 := nu_f b n (n - p) p v
theorem nu_step {b : Nat → Int32} {n p : Nat} {v : Int64} (h : isd b n p) : nu b n p v = nu b n (p + 1) (if (((10 : Int64) * v) + (bt b n p).toInt64) - (48 : Int64) < (1000000 : Int64) then (((10 : Int64) * v) + (bt b n p).toInt64) - (48 : Int64) else (1000000 : Int64)) := by
  unfold nu
  have := h.1
  rw [show n - p = (n - (p + 1)) + 1 from by omega]
  show (if idg b n p = 0 then (p, v) else nu_f b n (n - (p + 1)) (p + 1) _) = _
  rw [idg_1 h]; rfl
theorem nu_stop {b : Nat → Int32} {n p : Nat} {v : Int64} (h : ¬ isd b n p) : nu b n p v = (p, v) := by
  unfold nu
  cases e : n - p with
  | zero => rfl
  | succ j =>
    show (if idg b n p = 0 then (p, v) else nu_f b n j (p + 1) _) = _
    rw [if_pos (idg_0 h)]
theorem nu_le {b : Nat → Int32} {n : Nat} : ∀ (j p : Nat) (v : Int64), p ≤ (nu_f b n j p v).1 ∧ (nu_f b n j p v).1 ≤ p + j
  | 0, p, v => by show p ≤ p ∧ p ≤ p + 0; omega
  | j + 1, p, v => by
    show p ≤ (if idg b n p = 0 then (p, v) else nu_f b n j (p + 1) _).1 ∧ (if idg b n p = 0 then (p, v) else nu_f b n j (p + 1) _).1 ≤ p + (j + 1)
    by_cases c : idg b n p = 0
    · rw [if_pos c]; show p ≤ p ∧ p ≤ p + (j + 1); omega
    · rw [if_neg c]
      have ih := nu_le (b := b) (n := n) j (p + 1) (if (((10 : Int64) * v) + (bt b n p).toInt64) - (48 : Int64) < (1000000 : Int64) then (((10 : Int64) * v) + (bt b n p).toInt64) - (48 : Int64) else (1000000 : Int64))
      omega
theorem nu_le1 {b : Nat → Int32} {n p : Nat} {v : Int64} (h : p ≤ n) : p ≤ (nu b n p v).1 ∧ (nu b n p v).1 ≤ n := by
  have := nu_le (b := b) (n := n) (n - p) p v
  unfold nu; omega
theorem bt_lt {b : Nat → Int32} {n k : Nat} (h : bt b n k ≠ -1) : k < n := by
  unfold bt at h
  by_cases c : k < n
  · exact c
  · rw [if_neg c] at h; exact absurd rfl h
theorem bt_32 {b : Nat → Int32} {n k : Nat} : bt b n k = 32 ↔ (k < n ∧ b k = 32) := by
  unfold bt
  by_cases c : k < n
  · rw [if_pos c]; exact ⟨fun h => ⟨c, h⟩, fun h => h.2⟩
  · rw [if_neg c]; exact ⟨fun h => absurd h (by decide), fun h => absurd h.1 c⟩
theorem in_bt {σ : pr_I} {b : Nat → Int32} {n k : Nat} {lo hi : Int32} {A B : Int64} (eA : lo.toInt64 = A) (eB : hi.toInt64 = B) (hlo : (0 : Int32) ≤ lo) {v : Int32} (hv : ∀ h : k < n ∧ lo ≤ b k ∧ b k ≤ hi, v = 1) (hv2 : ¬ (k < n ∧ lo ≤ b k ∧ b k ≤ hi) → v = 0) : m_in_r σ (bt b n k).toInt64 A B = v := by
  by_cases c : k < n
  · unfold bt; rw [if_pos c]
    by_cases c1 : lo ≤ b k
    · by_cases c2 : b k ≤ hi
      · rw [hv ⟨c, c1, c2⟩]; exact in_z1 c1 c2 eA eB
      · rw [hv2 (fun h => c2 h.2.2)]; exact in_z0 (Or.inr (Int32.not_le.mp c2)) eA eB
    · rw [hv2 (fun h => c1 h.2.1)]; exact in_z0 (Or.inl (Int32.not_le.mp c1)) eA eB
  · unfold bt; rw [if_neg c, hv2 (fun h => c h.1)]
    refine in_z0 (Or.inl ?_) eA eB
    have := Int32.le_iff_toInt_le.mp hlo
    exact Int32.lt_iff_toInt_lt.mpr (by show (-1 : Int) < _; have e0 : (0 : Int32).toInt = 0 := by decide
                                        omega)
theorem pr_up_id {σ : pr_I} {o k : Nat} {v : Int32} (h : σ o k = v) : pr_up σ o k v = σ := by
  funext b j; unfold pr_up; by_cases c : b = o ∧ j = k
  · rw [if_pos c, c.1, c.2, h]
  · rw [if_neg c]
theorem nI_sub {a b : Nat} (h : b ≤ a) : nI a - nI b = nI (a - b) := by
  obtain ⟨c, rfl⟩ : ∃ c, a = b + c := ⟨a - b, by omega⟩
  rw [← nI_add, show b + c - b = c from by omega]
  apply Int32.toBitVec_inj.mp
  simp [Int32.toBitVec_sub, Int32.toBitVec_add]
  bv_omega