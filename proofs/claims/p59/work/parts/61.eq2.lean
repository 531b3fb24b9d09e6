/-! NUMBERS -/
theorem bm64 {x : Int} (h1 : -9223372036854775808 ≤ x) (h2 : x < 9223372036854775808) : x.bmod (2 ^ 64) = x := by
  show x.bmod 18446744073709551616 = x
  simp only [Int.bmod]
  split <;> omega
theorem bm32 {x : Int} (h1 : -2147483648 ≤ x) (h2 : x < 2147483648) : x.bmod (2 ^ 32) = x := by
  show x.bmod 4294967296 = x
  simp only [Int.bmod]
  split <;> omega
theorem l_mul {a b : Int64} (h1 : -9223372036854775808 ≤ a.toInt * b.toInt) (h2 : a.toInt * b.toInt < 9223372036854775808) : (a * b).toInt = a.toInt * b.toInt := by
  rw [Int64.toInt_mul]; exact bm64 h1 h2
theorem l_div {a b : Int64} (ha : 0 ≤ a.toInt) (hb : 0 < b.toInt) : (a / b).toInt = a.toInt / b.toInt := by
  rw [Int64.toInt_div, Int.tdiv_eq_ediv_of_nonneg ha]
  have h1 : 0 ≤ a.toInt / b.toInt := Int.ediv_nonneg ha (Int.le_of_lt hb)
  have h2 : a.toInt / b.toInt ≤ a.toInt := Int.ediv_le_self _ ha
  have h3 := a.toInt_lt
  exact bm64 (by omega) (by omega)
theorem i_add {a b : Int32} (h1 : -2147483648 ≤ a.toInt + b.toInt) (h2 : a.toInt + b.toInt < 2147483648) : (a + b).toInt = a.toInt + b.toInt := by
  rw [Int32.toInt_add]; exact bm32 h1 h2
theorem i_sub {a b : Int32} (h1 : -2147483648 ≤ a.toInt - b.toInt) (h2 : a.toInt - b.toInt < 2147483648) : (a - b).toInt = a.toInt - b.toInt := by
  rw [Int32.toInt_sub]; exact bm32 h1 h2
theorem i_mul {a b : Int32} (h1 : -2147483648 ≤ a.toInt * b.toInt) (h2 : a.toInt * b.toInt < 2147483648) : (a * b).toInt = a.toInt * b.toInt := by
  rw [Int32.toInt_mul]; exact bm32 h1 h2
theorem i_div {a b : Int32} (ha : 0 ≤ a.toInt) (hb : 0 < b.toInt) : (a / b).toInt = a.toInt / b.toInt := by
  rw [Int32.toInt_div, Int.tdiv_eq_ediv_of_nonneg ha]
  have h1 : 0 ≤ a.toInt / b.toInt := Int.ediv_nonneg ha (Int.le_of_lt hb)
  have h2 : a.toInt / b.toInt ≤ a.toInt := Int.ediv_le_self _ ha
  have h3 := a.toInt_lt
  exact bm32 (by omega) (by omega)
/-- a hundred percent of a share is the share -/
theorem pc100 {q : Int64} (h0 : 0 ≤ q.toInt) (h1 : q.toInt ≤ 100000000000) : q * (100 : Int32).toInt64 / (100 : Int64) = q := by
  have e : (100 : Int32).toInt64 = (100 : Int64) := by decide
  have e2 : (100 : Int64).toInt = 100 := by decide
  rw [e]
  apply Int64.toInt_inj.mp
  have m : (q * 100).toInt = q.toInt * 100 := by rw [l_mul (by rw [e2]; omega) (by rw [e2]; omega), e2]
  rw [l_div (by rw [m]; omega) (by rw [e2]; omega), m, e2]
  omega
theorem nar1 {p : Int32} : p.toInt64.toInt32 = p := by
  apply Int32.toInt_inj.mp
  rw [Int64.toInt_toInt32, Int32.toInt_toInt64]
  have h1 := p.le_toInt
  have h2 := p.toInt_lt
  exact bm32 (by omega) (by omega)
/-- the share of a failed attempt -/
theorem share1 {p : Int32} (h0 : 0 ≤ p.toInt) (h1 : p.toInt ≤ 1000000) : ((((if (1 : Int32) ≤ 1 then ((p.toInt64 * (1 : Int32).toInt64) / (1 : Int32).toInt64) else (0 : Int64)) * (100 : Int32).toInt64) / (100 : Int64))).toInt32 = p := by
  have e : (1 : Int32).toInt64 = (1 : Int64) := by decide
  rw [if_pos (by decide), e, Int64.mul_one, Int64.div_one, pc100 (by rw [Int32.toInt_toInt64]; omega) (by rw [Int32.toInt_toInt64]; omega)]
  exact nar1
/-- the share of an end: nothing -/
theorem share0 {q : Int64} : ((q * (0 : Int32).toInt64) / (100 : Int64)).toInt32 = 0 := by
  have e : (0 : Int32).toInt64 = (0 : Int64) := by decide
  rw [e, Int64.mul_zero]; decide
/-! THE PROMISED UNITS -/
theorem prom_congr {μ μ' : pr_I} {n n' : Nat} {x : Int32} : ∀ j, (∀ t, t < j → ∀ c, (c = 1 ∨ c = 2 ∨ c = 5) → μ' 1 (1384 + 8 * t + c) = μ 1 (1384 + 8 * t + c)) → m_prom_it4 μ' n' x j = m_prom_it4 μ n x j
  | 0, _ => rfl
  | j + 1, h => by
    have ih := prom_congr (x := x) (n := n) (n' := n') j (fun t ht => h t (by omega))
    unfold m_prom_it4 m_kept_r
    rw [ih, h j (by omega) 1 (Or.inl rfl), h j (by omega) 2 (Or.inr (Or.inl rfl)), h j (by omega) 5 (Or.inr (Or.inr rfl))]
theorem add_sub_right (a b c : Int32) : a - b + c = a + c - b := by
  simp only [Int32.sub_eq_add_neg]; ac_rfl
theorem add_zero32 (a : Int32) : a + 0 = a := Int32.add_zero a
theorem prom_rel {μ : pr_I} {n t : Nat} {x s : Int32} (h : ¬ m_kept_r μ t = 0) (h0 : ¬ s = 0) (h1 : ¬ s = 1) : ∀ j, m_prom_it4 (pr_up μ 1 (1384 + 8 * t + 5) s) n x j = m_prom_it4 μ n x j - (if t < j then (if μ 1 (1384 + 8 * t + 1) = x then μ 1 (1384 + 8 * t + 2) else 0) else 0)
  | 0 => by show (0 : Int32) = 0 - (if t < 0 then _ else 0); rw [if_neg (by omega)]; decide
  | j + 1 => by
    have ih := prom_rel (n := n) (x := x) h h0 h1 j
    show m_prom_it4 (pr_up μ 1 (1384 + 8 * t + 5) s) n x j + (if (pr_up μ 1 (1384 + 8 * t + 5) s) 1 (1384 + 8 * j + 1) = x then (if m_kept_r (pr_up μ 1 (1384 + 8 * t + 5) s) j = 0 then (0 : Int32) else (pr_up μ 1 (1384 + 8 * t + 5) s) 1 (1384 + 8 * j + 2)) else (0 : Int32))
       = m_prom_it4 μ n x j + (if μ 1 (1384 + 8 * j + 1) = x then (if m_kept_r μ j = 0 then (0 : Int32) else μ 1 (1384 + 8 * j + 2)) else (0 : Int32)) - (if t < j + 1 then (if μ 1 (1384 + 8 * t + 1) = x then μ 1 (1384 + 8 * t + 2) else 0) else 0)
    rw [ih, pr_upk (by omega), pr_upk (by omega)]
    by_cases e : j = t
    · subst e
      have k0 : m_kept_r (pr_up μ 1 (1384 + 8 * j + 5) s) j = 0 := by unfold m_kept_r; rw [pr_upe, if_neg h0, if_neg h1]
      rw [k0, if_pos rfl, if_neg h, if_neg (show ¬ j < j by omega), if_pos (show j < j + 1 by omega)]
      by_cases c : μ 1 (1384 + 8 * j + 1) = x
      · rw [if_pos c, if_pos c, Int32.add_sub_cancel, Int32.sub_zero, Int32.add_zero]
      · rw [if_neg c, if_neg c, Int32.sub_zero, Int32.sub_zero]
    · have k0 : m_kept_r (pr_up μ 1 (1384 + 8 * t + 5) s) j = m_kept_r μ j := by unfold m_kept_r; rw [pr_upk (by omega)]
      rw [k0]
      by_cases c : t < j
      · rw [if_pos c, if_pos (show t < j + 1 by omega), add_sub_right]
      · rw [if_neg c, if_neg (show ¬ t < j + 1 by omega), Int32.sub_zero, Int32.sub_zero]
/-! THE CORE OF BOTH: equal cells, promised units, tickets of known links and requests, prices -/
def Cr (σ μ : pr_I) : Prop := wI σ ∧ mI μ ∧ RC (lkn σ) (rqn σ) (tkn σ) σ μ ∧ (∀ t, t < tkn σ → vp_in (σ 10 t) (rqn σ) ∧ vp_in (σ 11 t) (lkn σ)) ∧ (∀ t, t < tkn σ → 0 ≤ (σ 16 t).toInt ∧ (σ 16 t).toInt ≤ 1000000) ∧ (∀ k, k < lkn σ → σ 7 k = m_prom_it4 μ (tkn σ) (nI k) (tkn σ))
section CR
variable {σ μ : pr_I}
theorem Cr.w (h : Cr σ μ) : wI σ := h.1
theorem Cr.m (h : Cr σ μ) : mI μ := h.2.1
theorem Cr.rc (h : Cr σ μ) : RC (lkn σ) (rqn σ) (tkn σ) σ μ := h.2.2.1
theorem Cr.tl (h : Cr σ μ) {t : Nat} (ht : t < tkn σ) : vp_in (σ 10 t) (rqn σ) ∧ vp_in (σ 11 t) (lkn σ) := h.2.2.2.1 t ht
theorem Cr.pc (h : Cr σ μ) {t : Nat} (ht : t < tkn σ) : 0 ≤ (σ 16 t).toInt ∧ (σ 16 t).toInt ≤ 1000000 := h.2.2.2.2.1 t ht
theorem Cr.pr (h : Cr σ μ) {k : Nat} (hk : k < lkn σ) : σ 7 k = m_prom_it4 μ (tkn σ) (nI k) (tkn σ) := h.2.2.2.2.2 k hk
theorem Cr.tn (h : Cr σ μ) : mtn μ = tkn σ := by unfold mtn tkn; rw [← h.rc.g (j := 9) (by decide)]; rfl
theorem Cr.rn (h : Cr σ μ) : mrn μ = rqn σ := by unfold mrn rqn; rw [← h.rc.g (j := 8) (by decide)]; rfl
theorem Cr.ln (h : Cr σ μ) : mln μ = lkn σ := by unfold mln lkn; rw [← h.rc.g (j := 7) (by decide)]; rfl
theorem Cr.nn (h : Cr σ μ) : mnn μ = ndn σ := by unfold mnn ndn; rw [← h.rc.g (j := 6) (by decide)]; rfl
theorem Cr.now (h : Cr σ μ) : σ 0 7 = μ 1 0 := h.rc.g (j := 0) (by decide)
theorem Cr.set (h : Cr σ μ) {j : Nat} (hj : j < 5) : σ 119 j = μ 1 (1 + j) := by
  have e := h.rc.g (j := 1 + j) (by omega)
  have : cA (1 + j) = (119, j) := by
    unfold cA; rw [if_neg (by omega), if_pos (by omega)]; congr 1; omega
  rw [this] at e; exact e
theorem Cr.tick (h : Cr σ μ) {t c : Nat} (ht : t < tkn σ) (hc : c < 8) : σ (10 + c) t = μ 1 (1384 + 8 * t + c) := h.rc.tick ht hc
theorem Cr.req (h : Cr σ μ) {r c : Nat} (hr : r < rqn σ) (hc : c < 15) : σ (19 + c) r = μ 1 (264 + 28 * r + c) := h.rc.req (wI_nr4 h.w) hr hc
theorem Cr.link (h : Cr σ μ) {k c : Nat} (hk : k < lkn σ) (hc : c < 5) : σ (2 + c) k = μ 1 (96 + 7 * k + c) := h.rc.link (wI_nl24 h.w) hk hc
theorem Cr.fail (h : Cr σ μ) {k : Nat} (hk : k < lkn σ) : σ 8 k = μ 1 (96 + 7 * k + 6) := h.rc.fail (wI_nl24 h.w) hk
theorem Cr.kept (h : Cr σ μ) {t : Nat} (ht : t < tkn σ) : tk_kp σ t = m_kept_r μ t := by
  unfold tk_kp m_kept_r
  rw [show σ 15 t = μ 1 (1384 + 8 * t + 5) from h.tick ht (c := 5) (by decide)]
end CR
