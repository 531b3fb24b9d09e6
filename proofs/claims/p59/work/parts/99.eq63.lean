/-! NAMES AND KEYWORDS ON BOTH SIDES -/
theorem inm_m {r b : Nat → Int32} {a f c : Nat} (hc : c ≤ 700) : ∀ (j i : Nat) (x : Int32), (x = 0 ∨ x = 1) → c + 1 ≤ j + i → i ≤ c → (inm_f r b a f c j i x = 0 ↔ (x = 0 ∨ ∃ t, i ≤ t ∧ t < c ∧ r (a + 1 + t) ≠ b (f + t)))
  | 0, i, x, _, h1, h2 => absurd h1 (by omega)
  | j + 1, i, x, hx, h1, h2 => by
    rw [inm_f]
    rcases hx with hx | hx
    · rw [if_pos hx]; exact ⟨fun _ => Or.inl hx, fun _ => hx⟩
    · have x0 : ¬ x = 0 := by rw [hx]; decide
      rw [if_neg x0]
      by_cases c1 : c ≤ i
      · rw [if_pos ((nI_leI (by omega) (by omega)).mpr c1)]
        refine ⟨fun z => absurd z x0, fun z => ?_⟩
        rcases z with z | ⟨t, t1, t2, _⟩
        · exact absurd z x0
        · omega
      · rw [if_neg (fun z => c1 ((nI_leI (by omega) (by omega)).mp z))]
        by_cases e : r (a + 1 + i) = b (f + i)
        · rw [if_pos e, inm_m hc j (i + 1) 1 (Or.inr rfl) (by omega) (by omega)]
          constructor
          · rintro (z | ⟨t, t1, t2, t3⟩)
            · exact absurd z (by decide)
            · exact Or.inr ⟨t, by omega, t2, t3⟩
          · rintro (z | ⟨t, t1, t2, t3⟩)
            · exact absurd z x0
            · refine Or.inr ⟨t, ?_, t2, t3⟩
              by_cases q : t = i
              · rw [q] at t3; exact absurd e t3
              · omega
        · rw [if_neg e, inm_m hc j (i + 1) 0 (Or.inl rfl) (by omega) (by omega)]
          exact ⟨fun _ => Or.inr ⟨i, Nat.le_refl _, by omega, e⟩, fun _ => Or.inl rfl⟩
theorem inm_0 {r b : Nat → Int32} {k f c : Nat} (hc : c ≤ 700) : inm r b k f c = 0 ↔ ¬ (r (12 + 7 * k) = nI c ∧ ∀ t, t < c → r (12 + 7 * k + 1 + t) = b (f + t)) := by
  unfold inm
  by_cases e : r (12 + 7 * k) = nI c
  · rw [if_pos e, inm_m hc (c + 1) 0 1 (Or.inr rfl) (by omega) (Nat.zero_le _)]
    constructor
    · rintro (z | ⟨t, _, t2, t3⟩) q
      · exact absurd z (by decide)
      · exact t3 (q.2 t t2)
    · intro q
      refine Or.inr (Classical.byContradiction (fun w => q ⟨e, fun t ht => ?_⟩))
      exact Classical.byContradiction (fun y => w ⟨t, Nat.zero_le _, ht, y⟩)
  · rw [if_neg e, inm_m hc (c + 1) 0 0 (Or.inl rfl) (by omega) (Nat.zero_le _)]
    exact ⟨fun _ z => e z.1, fun _ => Or.inl rfl⟩
/-- the class' names are the reference's -/
def NM (ν : Nat → Int64) (r : Nat → Int32) (nn : Nat) : Prop := (∀ k, k < nn → ∃ c, 1 ≤ c ∧ c ≤ 6 ∧ r (12 + 7 * k) = nI c ∧ lt8 (fun i => r (12 + 7 * k + 1 + i)) c ∧ ν k = pkf (fun i => r (12 + 7 * k + 1 + i)) c) ∧ ∀ i j, i < j → j < nn → ν i ≠ ν j
section NMS
variable {ν : Nat → Int64} {r b : Nat → Int32} {nn f c : Nat}
theorem NM.is (h : NM ν r nn) {k : Nat} (hk : k < nn) (hb : lt8 (fun i => b (f + i)) c) (hc : c ≤ 700) : ν k = wd b f c ↔ ¬ inm r b k f c = 0 := by
  obtain ⟨c0, c1, c2, e1, l8, eν⟩ := h.1 k hk
  rw [inm_0 hc, e1]
  unfold wd
  by_cases c6 : c ≤ 6
  · rw [if_pos c6, eν, pkf_inj c2 c6 l8 hb]
    constructor
    · rintro ⟨q1, q2⟩ z
      exact z ⟨by rw [q1], fun t ht => q2 t (by omega)⟩
    · intro z
      have z2 := Classical.byContradiction z
      have q1 : c0 = c := (nI_eq (by omega) (by omega)).mp z2.1
      exact ⟨q1, fun t ht => z2.2 t (by omega)⟩
  · rw [if_neg c6, eν]
    constructor
    · intro z; exact absurd z (pkf_ne c2 c1 l8)
    · intro z
      have z2 := Classical.byContradiction z
      have q1 : c0 = c := (nI_eq (by omega) (by omega)).mp z2.1
      omega
theorem nw_none {σ : pr_I} {q : Int64} (hn : nn ≤ 12) : ∀ (j k : Nat), nn + 1 ≤ j + k → k ≤ nn → (∀ i, k ≤ i → i < nn → ν i ≠ q) → w_nw_rl2 σ ν nn q j k = -1
  | 0, k, h1, h2, _ => absurd h1 (by omega)
  | j + 1, k, h1, h2, h3 => by
    rw [w_nw_rl2]
    by_cases c : nn ≤ k
    · rw [if_pos ((nI_leI (by omega) (by omega)).mpr c)]
    · rw [if_neg (fun z => c ((nI_leI (by omega) (by omega)).mp z)), if_neg (fun z => h3 k (Nat.le_refl _) (by omega) (lg_eq0.mp z))]
      exact nw_none hn j (k + 1) (by omega) (by omega) (fun i hi => h3 i (by omega))
theorem nw_some {σ : pr_I} {q : Int64} (hn : nn ≤ 12) {m : Nat} (hm : m < nn) (e : ν m = q) : ∀ (j k : Nat), nn + 1 ≤ j + k → k ≤ m → (∀ i, k ≤ i → i < m → ν i ≠ q) → w_nw_rl2 σ ν nn q j k = nI m
  | 0, k, h1, h2, _ => absurd h1 (by omega)
  | j + 1, k, h1, h2, h3 => by
    rw [w_nw_rl2, if_neg (fun z => by have := (nI_leI (by omega) (by omega)).mp z; omega)]
    by_cases c : k = m
    · rw [c, if_pos (lg_eq0.mpr e)]
    · rw [if_neg (fun z => h3 k (Nat.le_refl _) (by omega) (lg_eq0.mp z))]
      exact nw_some hn hm e j (k + 1) (by omega) (by omega) (fun i hi => h3 i (by omega))
theorem nmd_none : ∀ m, (∀ i, i < m → inm r b i f c = 0) → nmd r b f c m = -1
  | 0, _ => rfl
  | m + 1, h => by rw [nmd, if_pos (h m (by omega))]; exact nmd_none m (fun i hi => h i (by omega))
theorem nmd_some {k : Nat} (h1 : ¬ inm r b k f c = 0) : ∀ m, k < m → (∀ i, i < m → i ≠ k → inm r b i f c = 0) → nmd r b f c m = nI k
  | 0, hk, _ => absurd hk (by omega)
  | m + 1, hk, h => by
    rw [nmd]
    by_cases e : m = k
    · rw [e, if_neg h1]
    · rw [if_pos (h m (by omega) e)]; exact nmd_some h1 m (by omega) (fun i hi => h i (by omega))
/-- a name looked up -/
theorem NM.look (h : NM ν r nn) {σ : pr_I} (hn : nn ≤ 12) (hb : lt8 (fun i => b (f + i)) c) (hc : c ≤ 700) : w_nw_r σ ν nn (wd b f c) = nmd r b f c nn ∧ (nmd r b f c nn = -1 ∨ ∃ k, k < nn ∧ nmd r b f c nn = nI k) := by
  unfold w_nw_r
  by_cases ex : ∃ k, k < nn ∧ ν k = wd b f c
  · obtain ⟨k, k1, k2⟩ := ex
    have un : ∀ i, i < nn → i ≠ k → ν i ≠ wd b f c := fun i hi e q => by
      by_cases z : i < k
      · exact h.2 i k z k1 (q.trans k2.symm)
      · exact h.2 k i (by omega) hi (k2.trans q.symm)
    have e2 := nmd_some (r := r) (b := b) (f := f) (c := c) ((h.is k1 hb hc).mp k2) nn k1 (fun i hi e => Classical.byContradiction (fun z => un i hi e ((h.is hi hb hc).mpr z)))
    rw [nw_some hn k1 k2 (nn + 1) 0 (by omega) (Nat.zero_le _) (fun i _ hi => un i (by omega) (by omega)), e2]
    exact ⟨rfl, Or.inr ⟨k, k1, rfl⟩⟩
  · have no : ∀ i, i < nn → ν i ≠ wd b f c := fun i hi q => ex ⟨i, hi, q⟩
    have e2 := nmd_none (r := r) (b := b) (f := f) (c := c) nn (fun i hi => Classical.byContradiction (fun z => no i hi ((h.is hi hb hc).mpr z)))
    rw [nw_none hn (nn + 1) 0 (by omega) (Nat.zero_le _) (fun i _ hi => no i hi), e2]
    exact ⟨rfl, Or.inl rfl⟩
end NMS
/-! keywords -/
theorem pk_f {k : Nat} : ∀ j, pk_it k j = pkf (pr_sch k) j
  | 0 => rfl
  | j + 1 => by rw [pk_it, pkf, pk_f j]
theorem sch_lt8 : ∀ k, k < 7 → pr_slen.getD k 0 ≤ 6 ∧ ∀ i, i < pr_slen.getD k 0 → 1 ≤ (pr_sch k i).toInt ∧ (pr_sch k i).toInt ≤ 255 := by decide +kernel
theorem iw_m {b : Nat → Int32} {n q k c : Nat} (hn : n ≤ 700) (hE : we b n q = q + c) (hq : q + c ≤ n) : ∀ (j i : Nat) (x : Int32), (x = 0 ∨ x = 1) → c + 1 ≤ j + i → i ≤ c → (iw_f b n q k j i x = 0 ↔ (x = 0 ∨ ∃ t, i ≤ t ∧ t < c ∧ b (q + t) ≠ pr_sch k t))
  | 0, i, x, _, h1, h2 => absurd h1 (by omega)
  | j + 1, i, x, hx, h1, h2 => by
    rw [iw_f, hE]
    rcases hx with hx | hx
    · rw [if_pos hx]; exact ⟨fun _ => Or.inl hx, fun _ => hx⟩
    · have x0 : ¬ x = 0 := by rw [hx]; decide
      rw [if_neg x0]
      by_cases c1 : c ≤ i
      · rw [if_pos ((nI_leI (by omega) (by omega)).mpr (by omega))]
        refine ⟨fun z => absurd z x0, fun z => ?_⟩
        rcases z with z | ⟨t, t1, t2, _⟩
        · exact absurd z x0
        · omega
      · rw [if_neg (fun z => c1 (by have := (nI_leI (by omega) (by omega)).mp z; omega)), show bt b n (q + i) = b (q + i) from if_pos (by omega)]
        by_cases e : b (q + i) = pr_sch k i
        · rw [if_pos e, iw_m hn hE hq j (i + 1) 1 (Or.inr rfl) (by omega) (by omega)]
          constructor
          · rintro (z | ⟨t, t1, t2, t3⟩)
            · exact absurd z (by decide)
            · exact Or.inr ⟨t, by omega, t2, t3⟩
          · rintro (z | ⟨t, t1, t2, t3⟩)
            · exact absurd z x0
            · refine Or.inr ⟨t, ?_, t2, t3⟩
              by_cases y : t = i
              · rw [y] at t3; exact absurd e t3
              · omega
        · rw [if_neg e, iw_m hn hE hq j (i + 1) 0 (Or.inl rfl) (by omega) (by omega)]
          exact ⟨fun _ => Or.inr ⟨i, Nat.le_refl _, by omega, e⟩, fun _ => Or.inl rfl⟩
theorem iw_0 {b : Nat → Int32} {n q k : Nat} (hn : n ≤ 700) (hq : q ≤ n) : iw b n q k = 0 ↔ ¬ (nI (we b n q - q) = nI (pr_slen.getD k 0) ∧ ∀ t, t < we b n q - q → b (q + t) = pr_sch k t) := by
  obtain ⟨w1, w2⟩ := we_le (b := b) hq
  obtain ⟨c, hc⟩ : ∃ c, we b n q = q + c := ⟨we b n q - q, by omega⟩
  have ec : we b n q - q = c := by omega
  unfold iw
  rw [ec]
  by_cases e : nI c = nI (pr_slen.getD k 0)
  · rw [if_pos e, iw_m hn hc (by omega) (c + 1) 0 1 (Or.inr rfl) (by omega) (Nat.zero_le _)]
    constructor
    · rintro (z | ⟨t, _, t2, t3⟩) y
      · exact absurd z (by decide)
      · exact t3 (y.2 t t2)
    · intro y
      refine Or.inr (Classical.byContradiction (fun w => y ⟨e, fun t ht => ?_⟩))
      exact Classical.byContradiction (fun v => w ⟨t, Nat.zero_le _, ht, v⟩)
  · rw [if_neg e, iw_m hn hc (by omega) (c + 1) 0 0 (Or.inl rfl) (by omega) (Nat.zero_le _)]
    exact ⟨fun _ z => e z.1, fun _ => Or.inl rfl⟩
theorem we_lt8 {b : Nat → Int32} {n q : Nat} : lt8 (fun i => b (q + i)) (we b n q - q) := fun i hi => by
  obtain ⟨_, h1, h2⟩ := we_in (b := b) (n := n) (n - q) q rfl (q + i) (by omega) (by omega)
  have a := le_i.mp h1
  have c := le_i.mp h2
  rw [show (97 : Int32).toInt = 97 from rfl] at a
  rw [show (122 : Int32).toInt = 122 from rfl] at c
  show 1 ≤ (b (q + i)).toInt ∧ (b (q + i)).toInt ≤ 255
  omega
/-- the word at q is that keyword -/
theorem kw_eq {b : Nat → Int32} {n q k : Nat} (hn : n ≤ 700) (hq : q ≤ n) (hk : k < 7) : lg_cmp (wd b q (we b n q - q)) (pk k) = 0 ↔ ¬ iw b n q k = 0 := by
  obtain ⟨s1, s2⟩ := sch_lt8 k hk
  have ew := we_le (b := b) hq
  rw [lg_eq0, iw_0 hn hq]
  unfold pk wd
  rw [pk_f]
  by_cases c6 : we b n q - q ≤ 6
  · rw [if_pos c6, pkf_inj c6 s1 we_lt8 s2]
    constructor
    · rintro ⟨q1, q2⟩ z
      exact z ⟨by rw [q1], fun t ht => q2 t ht⟩
    · intro z
      have z2 := Classical.byContradiction z
      exact ⟨(nI_eq (by omega) (by omega)).mp z2.1, z2.2⟩
  · rw [if_neg c6]
    have p1 : 1 ≤ pr_slen.getD k 0 := (show ∀ k, k < 7 → 1 ≤ pr_slen.getD k 0 by decide) k hk
    constructor
    · intro z; exact absurd z.symm (pkf_ne s1 p1 s2)
    · intro z
      have z2 := Classical.byContradiction z
      have := (nI_eq (a := we b n q - q) (b := pr_slen.getD k 0) (by omega) (by omega)).mp z2.1
      omega
