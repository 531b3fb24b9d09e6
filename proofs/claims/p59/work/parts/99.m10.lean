/-! WHAT THE LAW FINDS OF REQUESTS AND LINKS -/
section JIS
variable {σ μ : pr_I}
theorem t64_add {a b : Int32} (h1 : -2147483648 ≤ a.toInt + b.toInt) (h2 : a.toInt + b.toInt < 2147483648) : (a + b).toInt64 = a.toInt64 + b.toInt64 := by
  apply Int64.toInt_inj.mp
  rw [Int32.toInt_toInt64, i_add h1 h2, Int64.toInt_add, Int32.toInt_toInt64, Int32.toInt_toInt64]
  exact (bm64 (by omega) (by omega)).symm
theorem sL_eq {r c : Nat} {B : Int} (hB : 0 ≤ B ∧ B ≤ 1000000) : ∀ n, n ≤ 500 → (∀ t, t < n → σ 10 t = nI r → 0 ≤ (σ c t).toInt ∧ (σ c t).toInt ≤ B) → sL σ r c n = (S32 σ r c n).toInt64 ∧ 0 ≤ (S32 σ r c n).toInt ∧ (S32 σ r c n).toInt ≤ B * (n : Int)
  | 0, _, _ => ⟨rfl, Int.le_refl _, by show (0 : Int) ≤ B * (0 : Int); rw [Int.mul_zero]; exact Int.le_refl _⟩
  | n + 1, hn, h => by
    obtain ⟨i1, i2, i3⟩ := sL_eq (r := r) hB n (by omega) (fun t ht => h t (by omega))
    have nb : B * (n : Int) ≤ 1000000 * 500 := Int.mul_le_mul hB.2 (by omega) (by omega) (by decide)
    have e : B * ((n + 1 : Nat) : Int) = B * (n : Int) + B := by
      rw [Int.natCast_add, Int.mul_add]
      show _ + B * 1 = _
      rw [Int.mul_one]
    rw [sL, S32, e]
    by_cases q : σ 10 n = nI r
    · obtain ⟨x1, x2⟩ := h n (by omega) q
      rw [if_pos q, if_pos q, i1, t64_add (by omega) (by omega), i_add (by omega) (by omega)]
      exact ⟨rfl, by omega, by omega⟩
    · rw [if_neg q, if_neg q, Int32.add_zero, i1]
      exact ⟨rfl, i2, by omega⟩
theorem IsR.of (hx : WX σ μ) (j : J σ) {r : Nat} (hr : r < rqn σ) : vp_in (σ 23 r) 8 ∧ IsR σ r := by
  have W := hx.1.1
  have tm := hx.1.2
  have h5 := wI_n5 W.cr.w
  have h4 := wI_nr4 W.cr.w
  obtain ⟨a1, a2, a3, a4, a5, a6⟩ := j.2.1 r hr
  obtain ⟨s1, s2, s3, s4⟩ := W.sr hr
  have b16 := sL_eq (σ := σ) (r := r) (c := 16) (B := 1000000) (by decide) (tkn σ) h5 (fun t ht _ => j.pc ht)
  have b17 := sL_eq (σ := σ) (r := r) (c := 17) (B := 1000000) (by decide) (tkn σ) h5 (fun t ht _ => by
    have := (j.1 t ht).2.2.2.1
    have := (j.pc ht).2
    omega)
  refine ⟨s1, fun t ht e => ⟨?_, ?_, fun z => ?_⟩, by rw [a5]; exact b16.1, by rw [a6]; exact b17.1, a2.1, a2.2, fun z => ?_, fun z => ?_⟩
  · have := (j.1 t ht).2.2.2.1
    rw [lt_i]; omega
  · have := (j.1 t ht).2.2.2.2.1
    rw [this, e, nI_clamp (by omega)]
  · have v := (j.1 t ht).2.2.2.2.2.2.2
    have lv := vp_in_lt v
    have ev := vp_nI v (by decide)
    have kp' : ¬ tk_kp σ t = 0 := by
      rw [kpt_iff]
      rw [ev] at z
      have z2 : ¬ 2 ≤ (σ 15 t).toNatClampNeg := fun q => z ((nI_leI (a := 2) (by decide) (by omega)).mpr q)
      rcases (by omega : (σ 15 t).toNatClampNeg = 0 ∨ (σ 15 t).toNatClampNeg = 1) with q | q
      · exact Or.inl (by rw [ev, q]; rfl)
      · exact Or.inr (by rw [ev, q]; rfl)
    exact a1 t ht e kp'
  · have due : 0 ≤ (σ 25 r).toInt := by
      rcases z with q | q | q
      · exact (a3.2.1 q).2.2.2
      · exact (a3.2.2.1 q).2.2.2
      · exact (a3.1 q).2.2.2
    rcases tm.2.2 r hr with q | q
    · rw [q] at due; exact absurd due (by decide)
    · exact ni_le (lt_i.mpr q)
  · rw [s3 z, le_i]
    have := W.ti.1
    have e : (-1 : Int32).toInt = -1 := by decide
    omega
/-- the sum over the tickets from k on, j of them -/
def P2 (σ : pr_I) (l : Nat) : Nat → Nat → Int32
  | 0, _ => 0
  | j + 1, k => (if σ 11 k = nI l then (if tk_kp σ k = 0 then 0 else σ 12 k) else 0) + P2 σ l j (k + 1)
theorem P2_eq (C : Cr σ μ) {l : Nat} : ∀ j k, k + j = tkn σ → m_prom_it4 μ (tkn σ) (nI l) k + P2 σ l j k = m_prom_it4 μ (tkn σ) (nI l) (tkn σ)
  | 0, k, h => by
    have e : k = tkn σ := h
    rw [P2, Int32.add_zero, e]
  | j + 1, k, h => by
    have ih := P2_eq C (l := l) j (k + 1) (by omega)
    have ht : k < tkn σ := by omega
    have e1 : σ 11 k = μ 1 (1384 + 8 * k + 1) := C.tick ht (c := 1) (by decide)
    have e2 : σ 12 k = μ 1 (1384 + 8 * k + 2) := C.tick ht (c := 2) (by decide)
    have ek := C.kept ht
    rw [P2, ← Int32.add_assoc, e1, e2, ek, ← prom_s]
    exact ih
theorem uS_sh {tq : Nat → Nat} : ∀ m, uS σ tq (m + 1) = σ 12 (tq 0) + uS σ (fun i => tq (i + 1)) m
  | 0 => by rw [uS, uS, uS, Int32.zero_add, Int32.add_zero]
  | m + 1 => by
    rw [uS, uS_sh m, uS, Int32.add_assoc]
theorem onl_eq {l : Nat} : ∀ j k b, k + j = tkn σ → tkn σ ≤ 500 → b + j ≤ 1000 → ∃ (m : Nat) (tq : Nat → Nat), m ≤ j ∧ (∀ i, i < m → tq i < tkn σ ∧ tk_on σ (nI l) (nI (b + i)) j k (nI b) = nI (tq i)) ∧ tk_on σ (nI l) (nI (b + m)) j k (nI b) = -1 ∧ uS σ tq m = P2 σ l j k
  | 0, k, b, _, _, _ => ⟨0, fun _ => 0, Nat.le_refl _, fun i hi => absurd hi (Nat.not_lt_zero i), rfl, rfl⟩
  | j + 1, k, b, h, h5, hb => by
    by_cases c1 : σ 11 k = nI l
    · by_cases c2 : tk_kp σ k = 0
      · obtain ⟨m, tq, a1, a2, a3, a4⟩ := onl_eq (l := l) j (k + 1) b (by omega) h5 (by omega)
        refine ⟨m, tq, by omega, fun i hi => ⟨(a2 i hi).1, ?_⟩, ?_, ?_⟩
        · rw [tk_on, if_pos c1, if_pos c2]; exact (a2 i hi).2
        · rw [tk_on, if_pos c1, if_pos c2]; exact a3
        · rw [P2, if_pos c1, if_pos c2, Int32.zero_add]; exact a4
      · obtain ⟨m, tq, a1, a2, a3, a4⟩ := onl_eq (l := l) j (k + 1) (b + 1) (by omega) h5 (by omega)
        have st : ∀ i, b + i ≤ 2000 → tk_on σ (nI l) (nI (b + i)) (j + 1) k (nI b) = if i = 0 then nI k else tk_on σ (nI l) (nI (b + i)) j (k + 1) (nI (b + 1)) := fun i hi => by
          rw [tk_on, if_pos c1, if_neg c2]
          by_cases q : i = 0
          · rw [if_pos q, if_pos (by rw [q]; rfl)]
          · rw [if_neg q, if_neg (fun z => q (by have := (nI_eq (by omega) (by omega)).mp z; omega)), show nI b + 1 = nI (b + 1) from nI_add b 1]
        refine ⟨m + 1, fun i => if i = 0 then k else tq (i - 1), by omega, fun i hi => ?_, ?_, ?_⟩
        · rw [st i (by omega)]
          by_cases q : i = 0
          · rw [if_pos q]; dsimp only; rw [if_pos q]; exact ⟨by omega, rfl⟩
          · rw [if_neg q]; dsimp only; rw [if_neg q]
            have := a2 (i - 1) (by omega)
            rw [show b + 1 + (i - 1) = b + i by omega] at this
            exact this
        · rw [st (m + 1) (by omega), if_neg (by omega)]
          rw [show b + 1 + m = b + (m + 1) by omega] at a3
          exact a3
        · rw [uS_sh, P2, if_pos c1, if_neg c2, if_pos rfl, ← a4]
          rfl
    · obtain ⟨m, tq, a1, a2, a3, a4⟩ := onl_eq (l := l) j (k + 1) b (by omega) h5 (by omega)
      refine ⟨m, tq, by omega, fun i hi => ⟨(a2 i hi).1, ?_⟩, ?_, ?_⟩
      · rw [tk_on, if_neg c1]; exact (a2 i hi).2
      · rw [tk_on, if_neg c1]; exact a3
      · rw [P2, if_neg c1, Int32.zero_add]; exact a4
theorem av_of (hx : WX σ μ) (j : J σ) {l : Nat} (hl : l < lkn σ) : (lk_av σ l).toInt = (σ 4 l).toInt - (σ 7 l).toInt ∧ 0 ≤ (lk_av σ l).toInt ∧ (σ 7 l).toInt ≤ (σ 4 l).toInt ∧ 0 ≤ (σ 7 l).toInt := by
  have W := hx.1.1
  obtain ⟨p1, p2, p3⟩ := pu_eq j W.cr hl
  have cb := (W.lk l hl).2.2.2.2.2
  have pj := j.2.2 l hl
  have e : (lk_av σ l).toInt = (σ 4 l).toInt - (σ 7 l).toInt := i_sub (by omega) (by omega)
  exact ⟨e, by omega, by omega, by omega⟩
theorem IsL.of (hx : WX σ μ) (j : J σ) {l : Nat} (hl : l < lkn σ) : IsL σ l := by
  have W := hx.1.1
  have h5 := wI_n5 W.cr.w
  obtain ⟨m, tq, a1, a2, a3, a4⟩ := onl_eq (σ := σ) (l := l) (tkn σ) 0 0 (by omega) h5 (by omega)
  rw [Nat.zero_add] at a3
  refine ⟨m, tq, by omega, fun k hk => ?_, a3, ?_, ?_⟩
  · have := a2 k hk
    rw [Nat.zero_add] at this
    exact this
  · have p := P2_eq W.cr (l := l) (tkn σ) 0 (by omega)
    rw [show m_prom_it4 μ (tkn σ) (nI l) 0 = 0 from rfl, Int32.zero_add] at p
    rw [a4, p, W.cr.pr hl]
  · obtain ⟨_, b, _⟩ := av_of hx j hl
    exact ni_lt (le_i.mpr b)
theorem all_eq (hs : ∀ r, r < rqn σ → vp_in (σ 23 r) 8) : ∀ k, k ≤ rqn σ → ((((((((0 : Int32) + rq_cnt_it4 σ (rqn σ) (nI 0) k) + rq_cnt_it4 σ (rqn σ) (nI 1) k) + rq_cnt_it4 σ (rqn σ) (nI 2) k) + rq_cnt_it4 σ (rqn σ) (nI 3) k) + rq_cnt_it4 σ (rqn σ) (nI 4) k) + rq_cnt_it4 σ (rqn σ) (nI 5) k) + rq_cnt_it4 σ (rqn σ) (nI 6) k) + rq_cnt_it4 σ (rqn σ) (nI 7) k = nI k
  | 0, _ => rfl
  | k + 1, hk => by
    have ih := all_eq hs k (by omega)
    have v := hs k (by omega)
    have lv := vp_in_lt v
    have ev := vp_nI v (by decide)
    have st : ∀ c, rq_cnt_it4 σ (rqn σ) (nI c) (k + 1) = rq_cnt_it4 σ (rqn σ) (nI c) k + (if (σ 23 k) = nI c then (1 : Int32) else (0 : Int32)) := fun _ => rfl
    rw [st, st, st, st, st, st, st, st, show nI (k + 1) = nI k + 1 from (nI_add k 1).symm, ← ih]
    rcases (by omega : (σ 23 k).toNatClampNeg = 0 ∨ (σ 23 k).toNatClampNeg = 1 ∨ (σ 23 k).toNatClampNeg = 2 ∨ (σ 23 k).toNatClampNeg = 3 ∨ (σ 23 k).toNatClampNeg = 4 ∨ (σ 23 k).toNatClampNeg = 5 ∨ (σ 23 k).toNatClampNeg = 6 ∨ (σ 23 k).toNatClampNeg = 7) with q | q | q | q | q | q | q | q <;> (rw [ev, q]; simp only [show (nI 0 = nI 1) = False from by decide, show (nI 0 = nI 2) = False from by decide, show (nI 0 = nI 3) = False from by decide, show (nI 0 = nI 4) = False from by decide, show (nI 0 = nI 5) = False from by decide, show (nI 0 = nI 6) = False from by decide, show (nI 0 = nI 7) = False from by decide, show (nI 1 = nI 0) = False from by decide, show (nI 1 = nI 2) = False from by decide, show (nI 1 = nI 3) = False from by decide, show (nI 1 = nI 4) = False from by decide, show (nI 1 = nI 5) = False from by decide, show (nI 1 = nI 6) = False from by decide, show (nI 1 = nI 7) = False from by decide, show (nI 2 = nI 0) = False from by decide, show (nI 2 = nI 1) = False from by decide, show (nI 2 = nI 3) = False from by decide, show (nI 2 = nI 4) = False from by decide, show (nI 2 = nI 5) = False from by decide, show (nI 2 = nI 6) = False from by decide, show (nI 2 = nI 7) = False from by decide, show (nI 3 = nI 0) = False from by decide, show (nI 3 = nI 1) = False from by decide, show (nI 3 = nI 2) = False from by decide, show (nI 3 = nI 4) = False from by decide, show (nI 3 = nI 5) = False from by decide, show (nI 3 = nI 6) = False from by decide, show (nI 3 = nI 7) = False from by decide, show (nI 4 = nI 0) = False from by decide, show (nI 4 = nI 1) = False from by decide, show (nI 4 = nI 2) = False from by decide, show (nI 4 = nI 3) = False from by decide, show (nI 4 = nI 5) = False from by decide, show (nI 4 = nI 6) = False from by decide, show (nI 4 = nI 7) = False from by decide, show (nI 5 = nI 0) = False from by decide, show (nI 5 = nI 1) = False from by decide, show (nI 5 = nI 2) = False from by decide, show (nI 5 = nI 3) = False from by decide, show (nI 5 = nI 4) = False from by decide, show (nI 5 = nI 6) = False from by decide, show (nI 5 = nI 7) = False from by decide, show (nI 6 = nI 0) = False from by decide, show (nI 6 = nI 1) = False from by decide, show (nI 6 = nI 2) = False from by decide, show (nI 6 = nI 3) = False from by decide, show (nI 6 = nI 4) = False from by decide, show (nI 6 = nI 5) = False from by decide, show (nI 6 = nI 7) = False from by decide, show (nI 7 = nI 0) = False from by decide, show (nI 7 = nI 1) = False from by decide, show (nI 7 = nI 2) = False from by decide, show (nI 7 = nI 3) = False from by decide, show (nI 7 = nI 4) = False from by decide, show (nI 7 = nI 5) = False from by decide, show (nI 7 = nI 6) = False from by decide, if_true, if_false, Int32.add_zero]; try ac_rfl)
theorem safe_eq (h : ∀ l, l < lkn σ → σ 7 l ≤ σ 4 l) (h24 : lkn σ ≤ 24) : ∀ j k, k + j = lkn σ + 1 → k ≤ lkn σ → fx_isSafe_rl2 σ j k = 1
  | 0, k, a, b => by omega
  | j + 1, k, a, b => by
    rw [fx_isSafe_rl2]
    by_cases c : lkn σ ≤ k
    · rw [if_pos ((nI_leI (by omega) (by omega)).mpr c)]
    · rw [if_neg (fun z => c ((nI_leI (by omega) (by omega)).mp z)), if_pos (h k (by omega))]
      exact safe_eq h h24 j (k + 1) (by omega) (by omega)
end JIS
