/-! SHORTEST WAYS BY ROUNDS: numbers alone -/
/-- how many of the first n are such -/
def cn (p : Nat → Bool) : Nat → Nat
  | 0 => 0
  | n + 1 => cn p n + (if p n = true then 1 else 0)
theorem cn_s {p : Nat → Bool} {n : Nat} : cn p (n + 1) = cn p n + (if p n = true then 1 else 0) := rfl
theorem cn_le {p : Nat → Bool} : ∀ n, cn p n ≤ n
  | 0 => Nat.le_refl 0
  | n + 1 => by have := cn_le (p := p) n; rw [cn_s]; split <;> omega
theorem cn_mono {p q : Nat → Bool} : ∀ n, (∀ x, x < n → p x = true → q x = true) → cn p n ≤ cn q n
  | 0, _ => Nat.le_refl 0
  | n + 1, h => by
    have ih := cn_mono n (fun x hx => h x (by omega))
    have := h n (by omega)
    rw [cn_s, cn_s]
    by_cases c : p n = true
    · rw [if_pos c, if_pos (this c)]; omega
    · rw [if_neg c]; split <;> omega
theorem cn_lt {p q : Nat → Bool} {b : Nat} : ∀ n, (∀ x, x < n → p x = true → q x = true) → b < n → ¬ p b = true → q b = true → cn p n + 1 ≤ cn q n
  | 0, _, h, _, _ => absurd h (by omega)
  | n + 1, h, hb, h1, h2 => by
    rw [cn_s, cn_s]
    by_cases e : b = n
    · subst e
      have := cn_mono b (fun x hx => h x (by omega))
      rw [if_neg h1, if_pos h2]; omega
    · have ih := cn_lt n (fun x hx => h x (by omega)) (by omega) h1 h2
      have := h n (by omega)
      by_cases c : p n = true
      · rw [if_pos c, if_pos (this c)]; omega
      · rw [if_neg c]; split <;> omega
theorem cn_all {p : Nat → Bool} : ∀ n, n ≤ cn p n → ∀ x, x < n → p x = true
  | 0, _, x, hx => absurd hx (by omega)
  | n + 1, h, x, hx => by
    have := cn_le (p := p) n
    rw [cn_s] at h
    by_cases c : p n = true
    · rw [if_pos c] at h
      by_cases e : x = n
      · rw [e]; exact c
      · exact cn_all n (by omega) x (by omega)
    · rw [if_neg c] at h; omega
/-- a least one -/
theorem mn (f : Nat → Nat) (P : Nat → Prop) : ∀ n, (∃ x, x < n ∧ P x) → ∃ x, x < n ∧ P x ∧ ∀ y, y < n → P y → f x ≤ f y
  | 0, h => by obtain ⟨x, a, _⟩ := h; omega
  | n + 1, h => by
    by_cases c : ∃ x, x < n ∧ P x
    · obtain ⟨x, a, b, d⟩ := mn f P n c
      by_cases q : P n ∧ f n < f x
      · refine ⟨n, by omega, q.1, fun y hy hP => ?_⟩
        by_cases e : y = n
        · subst e; exact Nat.le_refl _
        · have := d y (by omega) hP; omega
      · refine ⟨x, by omega, b, fun y hy hP => ?_⟩
        by_cases e : y = n
        · subst e; exact Nat.le_of_not_lt (fun z => q ⟨hP, z⟩)
        · exact d y (by omega) hP
    · obtain ⟨x, a, b⟩ := h
      have e : x = n := by
        by_cases e : x = n
        · exact e
        · exact absurd ⟨x, by omega, b⟩ c
      subst e
      refine ⟨x, by omega, b, fun y hy hP => ?_⟩
      by_cases z : y = x
      · subst z; exact Nat.le_refl _
      · exact absurd ⟨y, by omega, hP⟩ c
/-- one round over the links: labels before and behind each -/
def Rn (al : Nat → Prop) (fr to w : Nat → Nat) (nl : Nat) (d : Nat → Nat → Nat) : Prop := ∀ j, j < nl → (al j ∧ d j (to j) + w j < d j (fr j) ∧ ∀ x, d (j + 1) x = if x = fr j then d j (to j) + w j else d j x) ∨ ((al j → d j (fr j) ≤ d j (to j) + w j) ∧ ∀ x, d (j + 1) x = d j x)
/-- links into labels below T cannot better -/
def Qt (al : Nat → Prop) (fr to w : Nat → Nat) (nl T : Nat) (d : Nat → Nat) : Prop := ∀ k, k < nl → al k → d (to k) < T → d (fr k) ≤ d (to k) + w k
section RND
variable {al : Nat → Prop} {fr to w : Nat → Nat} {nl : Nat} {d : Nat → Nat → Nat} {T M F : Nat}
theorem Rn.s (h : Rn al fr to w nl d) {j x : Nat} (hj : j < nl) : d (j + 1) x ≤ d j x := by
  rcases h j hj with ⟨_, a, b⟩ | ⟨_, b⟩
  · rw [b x]; split
    · rename_i e; rw [e]; omega
    · exact Nat.le_refl _
  · rw [b x]; exact Nat.le_refl _
theorem Rn.anti (h : Rn al fr to w nl d) {i x : Nat} : ∀ j, i ≤ j → j ≤ nl → d j x ≤ d i x
  | 0, a, _ => by rw [show i = 0 by omega]; exact Nat.le_refl _
  | j + 1, a, b => by
    by_cases e : i = j + 1
    · rw [e]; exact Nat.le_refl _
    · exact Nat.le_trans (h.s (by omega)) (h.anti j (by omega) (by omega))
theorem Rn.low (h : Rn al fr to w nl d) (hQ : Qt al fr to w nl T (d 0)) : ∀ j, j ≤ nl → ∀ x, d j x < T → d 0 x = d j x
  | 0, _, _, _ => rfl
  | j + 1, hj, x, hx => by
    have ih := h.low hQ j (by omega)
    rcases h j (by omega) with ⟨a1, a2, b⟩ | ⟨_, b⟩
    · rw [b x] at hx ⊢
      by_cases e : x = fr j
      · rw [if_pos e] at hx
        have e1 := ih (to j) (by omega)
        have e2 := hQ j (by omega) a1 (by omega)
        have e3 := h.anti (i := 0) (x := fr j) j (by omega) (by omega)
        omega
      · rw [if_neg e] at hx ⊢; exact ih x hx
    · rw [b x] at hx ⊢; exact ih x hx
theorem Rn.mid (h : Rn al fr to w nl d) (hw : ∀ k, k < nl → 1 ≤ w k) (hb : ∀ k, k < nl → to k < 12) (hQ : Qt al fr to w nl T (d 0)) (hM : ∀ x, x < 12 → T ≤ d nl x → M ≤ d nl x) : ∀ j, j ≤ nl → ∀ x, d j x ≤ M → d 0 x = d j x
  | 0, _, _, _ => rfl
  | j + 1, hj, x, hx => by
    have ih := h.mid hw hb hQ hM j (by omega)
    rcases h j (by omega) with ⟨a1, a2, b⟩ | ⟨_, b⟩
    · rw [b x] at hx ⊢
      by_cases e : x = fr j
      · rw [if_pos e] at hx
        have w1 := hw j (by omega)
        have e0 := h.anti (i := j) (x := to j) nl (by omega) (Nat.le_refl _)
        have e4 : d nl (to j) < T := by
          by_cases q : T ≤ d nl (to j)
          · have := hM (to j) (hb j (by omega)) q; omega
          · omega
        have e1 := h.low hQ nl (Nat.le_refl _) (to j) e4
        have e5 := h.anti (i := 0) (x := to j) j (by omega) (by omega)
        have e2 := hQ j (by omega) a1 (by omega)
        have e3 := h.anti (i := 0) (x := fr j) j (by omega) (by omega)
        omega
      · rw [if_neg e] at hx ⊢; exact ih x hx
    · rw [b x] at hx ⊢; exact ih x hx
/-- each round settles one more label, or all are -/
theorem Rn.round (h : Rn al fr to w nl d) (hw : ∀ k, k < nl → 1 ≤ w k) (hb : ∀ k, k < nl → to k < 12) (hQ : Qt al fr to w nl T (d 0)) : ∃ T', Qt al fr to w nl T' (d nl) ∧ ((∀ x, x < 12 → d nl x < F → d nl x < T') ∨ cn (fun x => decide (d 0 x < T)) 12 + 1 ≤ cn (fun x => decide (d nl x < T')) 12) := by
  by_cases c : ∃ x, x < 12 ∧ (T ≤ d nl x ∧ d nl x < F)
  · obtain ⟨x0, a, b, m⟩ := mn (d nl) (fun x => T ≤ d nl x ∧ d nl x < F) 12 c
    have hM : ∀ x, x < 12 → T ≤ d nl x → d nl x0 ≤ d nl x := fun x hx ht => by
      by_cases q : d nl x < F
      · exact m x hx ⟨ht, q⟩
      · have := b.2; omega
    have K := h.mid hw hb hQ hM
    refine ⟨d nl x0 + 1, fun k hk ha hlt => ?_, Or.inr ?_⟩
    · have e0 := K nl (Nat.le_refl _) (to k) (by omega)
      have e1 := h.anti (i := k) (x := to k) nl (by omega) (Nat.le_refl _)
      have e2 := h.anti (i := 0) (x := to k) k (by omega) (by omega)
      have e3 := h.anti (i := k + 1) (x := fr k) nl (by omega) (Nat.le_refl _)
      rcases h k hk with ⟨_, g1, g2⟩ | ⟨g1, g2⟩
      · have := g2 (fr k)
        rw [if_pos rfl] at this
        omega
      · have g3 := g1 ha
        have := g2 (fr k)
        omega
    · refine cn_lt (b := x0) 12 (fun x hx q => ?_) a (fun q => ?_) ?_
      · have q1 : d 0 x < T := of_decide_eq_true q
        have := h.anti (i := 0) (x := x) nl (by omega) (Nat.le_refl _)
        have := b.1
        exact decide_eq_true (by omega)
      · have q1 : d 0 x0 < T := of_decide_eq_true q
        have := h.anti (i := 0) (x := x0) nl (by omega) (Nat.le_refl _)
        have := b.1
        omega
      · exact decide_eq_true (by omega)
  · refine ⟨T, fun k hk ha hlt => ?_, Or.inl (fun x hx hF => ?_)⟩
    · have e0 := h.low hQ nl (Nat.le_refl _) (to k) hlt
      have e1 := hQ k hk ha (by omega)
      have e3 := h.anti (i := 0) (x := fr k) nl (by omega) (Nat.le_refl _)
      omega
    · by_cases q : d nl x < T
      · exact q
      · exact absurd ⟨x, hx, by omega, hF⟩ c
/-- where all are settled nothing changes -/
theorem Rn.fix (h : Rn al fr to w nl d) (hb : ∀ k, k < nl → fr k < 12 ∧ to k < 12) (hQ : Qt al fr to w nl T (d 0)) (hF : ∀ x, x < 12 → d 0 x ≤ F) (hT : ∀ x, x < 12 → d 0 x < F → d 0 x < T) : ∀ j, j ≤ nl → ∀ x, d j x = d 0 x
  | 0, _, _ => rfl
  | j + 1, hj, x => by
    have ih := h.fix hb hQ hF hT j (by omega)
    rcases h j (by omega) with ⟨a1, a2, b⟩ | ⟨_, b⟩
    · exfalso
      have e1 := ih (to j)
      have e2 := ih (fr j)
      have e3 := hF (fr j) (hb j (by omega)).1
      have e4 := hT (to j) (hb j (by omega)).2 (by omega)
      have := hQ j (by omega) a1 e4
      omega
    · rw [b x]; exact ih x
/-- a label of a node is reached over a link of its own -/
def Tg (al : Nat → Prop) (fr to w : Nat → Nat) (nl t F : Nat) (d : Nat → Nat) : Prop := ∀ v, v < 12 → v ≠ t → d v < F → ∃ k, k < nl ∧ al k ∧ fr k = v ∧ d (to k) + w k ≤ d v
theorem Rn.tight (h : Rn al fr to w nl d) {t : Nat} (h0 : Tg al fr to w nl t F (d 0)) : ∀ j, j ≤ nl → Tg al fr to w nl t F (d j)
  | 0, _ => h0
  | j + 1, hj => by
    have ih := h.tight h0 j (by omega)
    intro v hv hvt hvF
    rcases h j (by omega) with ⟨a1, a2, b⟩ | ⟨_, b⟩
    · by_cases e : v = fr j
      · refine ⟨j, by omega, a1, e.symm, ?_⟩
        have := h.s (x := to j) (j := j) (by omega)
        rw [b v, if_pos e]; omega
      · rw [b v, if_neg e] at hvF
        obtain ⟨k, k1, k2, k3, k4⟩ := ih v hv hvt hvF
        refine ⟨k, k1, k2, k3, ?_⟩
        have := h.s (x := to k) (j := j) (by omega)
        rw [b v, if_neg e]; omega
    · rw [b v] at hvF
      obtain ⟨k, k1, k2, k3, k4⟩ := ih v hv hvt hvF
      refine ⟨k, k1, k2, k3, ?_⟩
      rw [b v, b (to k)]; exact k4
/-- twelve rounds are enough -/
theorem rounds {E : Nat → Nat → Nat} (hw : ∀ k, k < nl → 1 ≤ w k) (hb : ∀ k, k < nl → fr k < 12 ∧ to k < 12) (hE : ∀ k, k < 12 → ∃ d, Rn al fr to w nl d ∧ d 0 = E k ∧ d nl = E (k + 1)) (h0 : ∀ x, x < 12 → E 0 x ≤ F) : ∀ k, k ≤ 12 → (∀ x, x < 12 → E k x ≤ F) ∧ ∃ T, Qt al fr to w nl T (E k) ∧ (k ≤ cn (fun x => decide (E k x < T)) 12 ∨ ∀ x, x < 12 → E k x < F → E k x < T)
  | 0, _ => ⟨h0, 0, fun k _ _ q => absurd q (by omega), Or.inl (Nat.zero_le _)⟩
  | k + 1, hk => by
    obtain ⟨i1, T, i2, i3⟩ := rounds hw hb hE h0 k (by omega)
    obtain ⟨d, r, d0, d1⟩ := hE k (by omega)
    rw [← d0] at i1 i2 i3
    rw [← d1]
    refine ⟨fun x hx => Nat.le_trans (r.anti (i := 0) nl (by omega) (Nat.le_refl _)) (i1 x hx), ?_⟩
    rcases i3 with q | q
    · obtain ⟨T', a, b⟩ := r.round (F := F) hw (fun k hk => (hb k hk).2) i2
      refine ⟨T', a, ?_⟩
      rcases b with b | b
      · exact Or.inr b
      · exact Or.inl (Nat.le_trans (Nat.succ_le_succ q) b)
    · have e : d nl = d 0 := funext (fun x => r.fix hb i2 i1 q nl (Nat.le_refl _) x)
      rw [e]
      exact ⟨T, i2, Or.inr q⟩
theorem rounds12 {E : Nat → Nat → Nat} (hw : ∀ k, k < nl → 1 ≤ w k) (hb : ∀ k, k < nl → fr k < 12 ∧ to k < 12) (hE : ∀ k, k < 12 → ∃ d, Rn al fr to w nl d ∧ d 0 = E k ∧ d nl = E (k + 1)) (h0 : ∀ x, x < 12 → E 0 x ≤ F) : (∀ x, x < 12 → E 12 x ≤ F) ∧ ∃ T, Qt al fr to w nl T (E 12) ∧ ∀ x, x < 12 → E 12 x < F → E 12 x < T := by
  obtain ⟨a, T, b, c⟩ := rounds hw hb hE h0 12 (Nat.le_refl _)
  refine ⟨a, T, b, ?_⟩
  rcases c with c | c
  · exact fun x hx _ => of_decide_eq_true (cn_all 12 c x hx)
  · exact c
end RND
