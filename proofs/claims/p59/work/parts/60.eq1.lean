/-! THE CLASS' WORLD AND THE REFERENCE'S ROW: which cell is which -/
def cA (j : Nat) : Nat × Nat :=
  if j = 0 then (0, 7) else if j < 6 then (119, j - 1) else if j = 6 then (0, 6) else if j = 7 then (1, 8) else if j = 8 then (18, 17) else if j = 9 then (9, 8)
  else if j < 96 then (200, j)
  else if j < 264 then (if (j - 96) % 7 = 5 then (201, j) else if (j - 96) % 7 = 6 then (8, (j - 96) / 7) else (2 + (j - 96) % 7, (j - 96) / 7))
  else if j < 1384 then (if (j - 264) % 28 < 15 then (19 + (j - 264) % 28, (j - 264) / 28) else (202, j))
  else (10 + (j - 1384) % 8, (j - 1384) / 8)
def cB (o k : Nat) : Nat :=
  if o = 0 then (if k = 7 then 0 else 6) else if o = 119 then k + 1 else if o = 1 then 7 else if o = 18 then 8 else if o = 9 then 9
  else if o < 7 then 96 + 7 * k + (o - 2) else if o = 8 then 96 + 7 * k + 6 else if o < 18 then 1384 + 8 * k + (o - 10) else if o < 34 then 264 + 28 * k + (o - 19) else k
theorem cB_cA (j : Nat) : cB (cA j).1 (cA j).2 = j := by
  unfold cA
  by_cases h0 : j = 0
  · subst h0; rfl
  rw [if_neg h0]
  by_cases h1 : j < 6
  · rw [if_pos h1]; show j - 1 + 1 = j; omega
  rw [if_neg h1]
  by_cases h6 : j = 6
  · subst h6; rfl
  rw [if_neg h6]
  by_cases h7 : j = 7
  · subst h7; rfl
  rw [if_neg h7]
  by_cases h8 : j = 8
  · subst h8; rfl
  rw [if_neg h8]
  by_cases h9 : j = 9
  · subst h9; rfl
  rw [if_neg h9]
  by_cases h10 : j < 96
  · rw [if_pos h10]; rfl
  rw [if_neg h10]
  by_cases h11 : j < 264
  · rw [if_pos h11]
    by_cases c5 : (j - 96) % 7 = 5
    · rw [if_pos c5]; rfl
    rw [if_neg c5]
    by_cases c6 : (j - 96) % 7 = 6
    · rw [if_pos c6]; show 96 + 7 * ((j - 96) / 7) + 6 = j; omega
    rw [if_neg c6]
    show cB (2 + (j - 96) % 7) ((j - 96) / 7) = j
    unfold cB
    rw [if_neg (by omega), if_neg (by omega), if_neg (by omega), if_neg (by omega), if_neg (by omega), if_pos (by omega)]
    omega
  rw [if_neg h11]
  by_cases h12 : j < 1384
  · rw [if_pos h12]
    by_cases c : (j - 264) % 28 < 15
    · rw [if_pos c]
      show cB (19 + (j - 264) % 28) ((j - 264) / 28) = j
      unfold cB
      rw [if_neg (by omega), if_neg (by omega), if_neg (by omega), if_neg (by omega), if_neg (by omega), if_neg (by omega), if_neg (by omega), if_neg (by omega), if_pos (by omega)]
      omega
    · rw [if_neg c]; rfl
  rw [if_neg h12]
  show cB (10 + (j - 1384) % 8) ((j - 1384) / 8) = j
  unfold cB
  rw [if_neg (by omega), if_neg (by omega), if_neg (by omega), if_neg (by omega), if_neg (by omega), if_neg (by omega), if_neg (by omega), if_pos (by omega)]
  omega
theorem cA_inj {i j : Nat} (h : cA i = cA j) : i = j := by
  rw [← cB_cA i, ← cB_cA j, h]
theorem cA_link {k c : Nat} (hk : k < 24) (hc : c < 5) : cA (96 + 7 * k + c) = (2 + c, k) := by
  have e1 : (96 + 7 * k + c - 96) % 7 = c := by omega
  have e2 : (96 + 7 * k + c - 96) / 7 = k := by omega
  unfold cA
  rw [if_neg (by omega), if_neg (by omega), if_neg (by omega), if_neg (by omega), if_neg (by omega), if_neg (by omega), if_neg (by omega), if_pos (by omega), e1, e2, if_neg (by omega), if_neg (by omega)]
theorem cA_fail {k : Nat} (hk : k < 24) : cA (96 + 7 * k + 6) = (8, k) := by
  have e1 : (96 + 7 * k + 6 - 96) % 7 = 6 := by omega
  have e2 : (96 + 7 * k + 6 - 96) / 7 = k := by omega
  unfold cA
  rw [if_neg (by omega), if_neg (by omega), if_neg (by omega), if_neg (by omega), if_neg (by omega), if_neg (by omega), if_neg (by omega), if_pos (by omega), e1, e2, if_neg (by omega), if_pos rfl]
theorem cA_req {r c : Nat} (hr : r < 40) (hc : c < 15) : cA (264 + 28 * r + c) = (19 + c, r) := by
  have e1 : (264 + 28 * r + c - 264) % 28 = c := by omega
  have e2 : (264 + 28 * r + c - 264) / 28 = r := by omega
  unfold cA
  rw [if_neg (by omega), if_neg (by omega), if_neg (by omega), if_neg (by omega), if_neg (by omega), if_neg (by omega), if_neg (by omega), if_neg (by omega), if_pos (by omega), e1, e2, if_pos hc]
theorem cA_tick {t c : Nat} (hc : c < 8) : cA (1384 + 8 * t + c) = (10 + c, t) := by
  have e1 : (1384 + 8 * t + c - 1384) % 8 = c := by omega
  have e2 : (1384 + 8 * t + c - 1384) / 8 = t := by omega
  unfold cA
  rw [if_neg (by omega), if_neg (by omega), if_neg (by omega), if_neg (by omega), if_neg (by omega), if_neg (by omega), if_neg (by omega), if_neg (by omega), if_neg (by omega), e1, e2]
/-- the cells that both have: of so many links, requests, tickets -/
def lv (nl nr nt j : Nat) : Prop := j < 10 ∨ (∃ k c, k < nl ∧ c < 7 ∧ c ≠ 5 ∧ j = 96 + 7 * k + c) ∨ (∃ r c, r < nr ∧ c < 15 ∧ j = 264 + 28 * r + c) ∨ ∃ t c, t < nt ∧ c < 8 ∧ j = 1384 + 8 * t + c
def RC (nl nr nt : Nat) (σ μ : pr_I) : Prop := ∀ j, lv nl nr nt j → σ (cA j).1 (cA j).2 = μ 1 j
theorem RC.g {nl nr nt : Nat} {σ μ : pr_I} (h : RC nl nr nt σ μ) {j : Nat} (hj : j < 10) : σ (cA j).1 (cA j).2 = μ 1 j := h j (Or.inl hj)
theorem RC.link {nl nr nt : Nat} {σ μ : pr_I} (h : RC nl nr nt σ μ) (hl : nl ≤ 24) {k c : Nat} (hk : k < nl) (hc : c < 5) : σ (2 + c) k = μ 1 (96 + 7 * k + c) := by
  have e := h _ (Or.inr (Or.inl ⟨k, c, hk, by omega, by omega, rfl⟩))
  rw [cA_link (by omega) hc] at e; exact e
theorem RC.fail {nl nr nt : Nat} {σ μ : pr_I} (h : RC nl nr nt σ μ) (hl : nl ≤ 24) {k : Nat} (hk : k < nl) : σ 8 k = μ 1 (96 + 7 * k + 6) := by
  have e := h _ (Or.inr (Or.inl ⟨k, 6, hk, by omega, by omega, rfl⟩))
  rw [cA_fail (by omega)] at e; exact e
theorem RC.req {nl nr nt : Nat} {σ μ : pr_I} (h : RC nl nr nt σ μ) (hn : nr ≤ 40) {r c : Nat} (hr : r < nr) (hc : c < 15) : σ (19 + c) r = μ 1 (264 + 28 * r + c) := by
  have e := h _ (Or.inr (Or.inr (Or.inl ⟨r, c, hr, hc, rfl⟩)))
  rw [cA_req (by omega) hc] at e; exact e
theorem RC.tick {nl nr nt : Nat} {σ μ : pr_I} (h : RC nl nr nt σ μ) {t c : Nat} (ht : t < nt) (hc : c < 8) : σ (10 + c) t = μ 1 (1384 + 8 * t + c) := by
  have e := h _ (Or.inr (Or.inr (Or.inr ⟨t, c, ht, hc, rfl⟩)))
  rw [cA_tick hc] at e; exact e
/-- the same cell set on both sides -/
theorem RC.up {nl nr nt : Nat} {σ μ : pr_I} (h : RC nl nr nt σ μ) {j o k : Nat} {v : Int32} (e : cA j = (o, k)) : RC nl nr nt (pr_up σ o k v) (pr_up μ 1 j v) := fun i hi => by
  unfold pr_up
  by_cases c : i = j
  · subst c; rw [e]; simp
  · have : ¬ ((cA i).1 = o ∧ (cA i).2 = k) := fun q => c (cA_inj (by rw [e, ← q.1, ← q.2]))
    rw [if_neg this, if_neg (fun q => c q.2)]
    exact h i hi
theorem cA_1 (j : Nat) : (cA j).1 < 7 ∨ (8 ≤ (cA j).1 ∧ (cA j).1 < 34) ∨ 119 ≤ (cA j).1 := by
  unfold cA
  (repeat' split) <;> simp <;> omega
/-- cells of the class alone -/
theorem RC.cls {nl nr nt : Nat} {σ μ : pr_I} (h : RC nl nr nt σ μ) {o k : Nat} {v : Int32} (e : o = 7 ∨ (34 ≤ o ∧ o < 119)) : RC nl nr nt (pr_up σ o k v) μ := fun i hi => by
  have := cA_1 i
  rw [show pr_up σ o k v (cA i).1 (cA i).2 = σ (cA i).1 (cA i).2 from congrFun (pr_up_ne (by omega)) _]
  exact h i hi
theorem RC.clsr {nl nr nt : Nat} {σ μ : pr_I} (h : RC nl nr nt σ μ) {o : Nat} {f : Nat → Int32} (e : o = 7 ∨ (34 ≤ o ∧ o < 119)) : RC nl nr nt (pr_row σ o f) μ := fun i hi => by
  have := cA_1 i
  rw [show pr_row σ o f (cA i).1 (cA i).2 = σ (cA i).1 (cA i).2 from congrFun (pr_row_ne (by omega)) _]
  exact h i hi
/-- only what lies in those rows counts -/
theorem RC.cong {nl nr nt : Nat} {σ σ' μ μ' : pr_I} (h : RC nl nr nt σ μ) (hs : ∀ o, (o < 7 ∨ (8 ≤ o ∧ o < 34) ∨ 119 ≤ o) → σ' o = σ o) (hm : ∀ j, lv nl nr nt j → μ' 1 j = μ 1 j) : RC nl nr nt σ' μ' := fun i hi => by
  rw [hs _ (cA_1 i), hm i hi]; exact h i hi
theorem RC.mu {nl nr nt : Nat} {σ μ μ' : pr_I} (h : RC nl nr nt σ μ) (hm : μ' 1 = μ 1) : RC nl nr nt σ μ' := fun i hi => by rw [hm]; exact h i hi
theorem RC.mono {nl nr nt nl' nr' nt' : Nat} {σ μ : pr_I} (h : RC nl nr nt σ μ) (h1 : nl' ≤ nl) (h2 : nr' ≤ nr) (h3 : nt' ≤ nt) : RC nl' nr' nt' σ μ := fun i hi => h i (by
  rcases hi with a | ⟨k, c, a, b⟩ | ⟨r, c, a, b⟩ | ⟨t, c, a, b⟩
  · exact Or.inl a
  · exact Or.inr (Or.inl ⟨k, c, by omega, b⟩)
  · exact Or.inr (Or.inr (Or.inl ⟨r, c, by omega, b⟩))
  · exact Or.inr (Or.inr (Or.inr ⟨t, c, by omega, b⟩)))
