/-! WORDS OF BYTES: what the law packs, and what append() lays down -/
def wv (f : Nat → Nat) : Nat → Nat
  | 0 => 0
  | n + 1 => wv f n * 256 + f n
theorem wv_lt {f : Nat → Nat} : ∀ n, (∀ i, i < n → f i < 256) → wv f n < 256 ^ n
  | 0, _ => Nat.one_pos
  | n + 1, h => by
    have ih := wv_lt n (fun i hi => h i (by omega))
    have := h n (by omega)
    show wv f n * 256 + f n < 256 ^ (n + 1)
    rw [Nat.pow_succ]
    omega
theorem wv_dig {f : Nat → Nat} : ∀ n i, (∀ i, i < n → f i < 256) → wv f n / 256 ^ i % 256 = if i < n then f (n - 1 - i) else 0
  | 0, i, _ => by
    rw [if_neg (by omega)]
    show 0 / 256 ^ i % 256 = 0
    rw [Nat.zero_div]
  | n + 1, 0, h => by
    have := h n (by omega)
    rw [if_pos (by omega)]
    show (wv f n * 256 + f n) / 256 ^ 0 % 256 = f (n + 1 - 1 - 0)
    rw [Nat.pow_zero, Nat.div_one, show n + 1 - 1 - 0 = n by omega]
    omega
  | n + 1, i + 1, h => by
    have ih := wv_dig n i (fun i hi => h i (by omega))
    have := h n (by omega)
    show (wv f n * 256 + f n) / 256 ^ (i + 1) % 256 = _
    rw [Nat.pow_succ, Nat.mul_comm (256 ^ i) 256, ← Nat.div_div_eq_div_mul, show (wv f n * 256 + f n) / 256 = wv f n by omega, ih]
    by_cases c : i < n
    · rw [if_pos c, if_pos (by omega), show n + 1 - 1 - (i + 1) = n - 1 - i by omega]
    · rw [if_neg c, if_neg (by omega)]
/-- one letter more in a word -/
theorem wd_s {q : Int64} {a c : Nat} (hq : q.toBitVec.toNat = a) (ha : a < 256 ^ 7) (hc : c < 256) : ((q <<< ((8 : Int32).toInt64 &&& 63)) ||| (nI c).toInt64).toBitVec.toNat = a * 256 + c := by
  have e8 : ((8 : Int32).toInt64 &&& 63) = (8 : Int64) := by decide
  have e1 : (q <<< (8 : Int64)).toBitVec.toNat = a * 256 := by
    rw [Int64.toBitVec_shiftLeft]
    have : ((8 : Int64).toBitVec.smod 64).toNat = 8 := by decide
    rw [BitVec.shiftLeft_eq', this, BitVec.toNat_shiftLeft, hq, Nat.shiftLeft_eq]
    exact Nat.mod_eq_of_lt (by omega)
  have e2 : (nI c).toInt64.toBitVec.toNat = c := by
    have : ∀ c, c < 256 → (nI c).toInt64.toBitVec.toNat = c := by decide +kernel
    exact this c hc
  rw [e8, Int64.toBitVec_or, BitVec.toNat_or, e1, e2]
  have := Nat.two_pow_add_eq_or_of_lt (i := 8) (b := c) (by omega) a
  rw [show a * 256 = 2 ^ 8 * a by omega, ← this]
theorem aw_n {q : Int64} {a : Nat} (hq : q.toBitVec.toNat = a) : ∀ k, k < 8 → (aw q k).toBitVec.toNat = a / 256 ^ (7 - k) := by
  intro k hk
  have e : ∀ k, k < 8 → ((ad_sh k).toInt64.toUInt64 &&& Int64.toUInt64 63) = UInt64.ofNat (8 * (7 - k)) := by unfold ad_sh; decide +kernel
  have e2 : ∀ k, k < 8 → (UInt64.ofNat (8 * (7 - k))).toNat % 64 = 8 * (7 - k) := by decide +kernel
  have p : ∀ k, k < 8 → (2 : Nat) ^ (8 * (7 - k)) = 256 ^ (7 - k) := by decide +kernel
  unfold aw
  rw [e k hk]
  show (q.toUInt64 >>> UInt64.ofNat (8 * (7 - k))).toNat = _
  rw [UInt64.toNat_shiftRight, e2 k hk, Nat.shiftRight_eq_div_pow, p k hk]
  show q.toBitVec.toNat / _ = _
  rw [hq]
theorem aA_n {q : Int64} {f : Nat → Nat} {m k : Nat} (hq : q.toBitVec.toNat = wv f m) (hm : m ≤ 8) (hf : ∀ i, i < m → f i < 128) (hk : k < 8) : aA q k = if 8 - m ≤ k then nI (f (k - (8 - m))) else 0 := by
  have h256 : ∀ i, i < m → f i < 256 := fun i hi => by have := hf i hi; omega
  have e := aw_n hq k hk
  have d := wv_dig m (7 - k) h256
  unfold aA
  apply Int32.toInt_inj.mp
  rw [a_A, e, d]
  by_cases c : 8 - m ≤ k
  · have := hf (k - (8 - m)) (by omega)
    rw [if_pos c, if_pos (show 7 - k < m by omega), show m - 1 - (7 - k) = k - (8 - m) by omega, nI_toInt (by omega)]
    split <;> omega
  · rw [if_neg c, if_neg (show ¬ 7 - k < m by omega)]
    rfl
/-- the first n letters of the text lie in the buffer -/
def TXn (φ : pr_I) (tx : List Nat) (n : Nat) : Prop := φ 0 3 = nI n ∧ n ≤ 700 ∧ ∀ j, j < n → φ 1 j = nI (tx.getD j 0)
theorem TXn.ap {φ : pr_I} {tx : List Nat} {n m : Nat} {q : Int64} (h : TXn φ tx n) (hq : q.toBitVec.toNat = wv (fun i => tx.getD (n + i) 0) m) (hm : m ≤ 8) (hn : n + m ≤ 700) (hf : ∀ i, i < m → 1 ≤ tx.getD (n + i) 0 ∧ tx.getD (n + i) 0 < 128) : TXn (fx_append φ q) tx (n + m) := by
  have hA : ∀ k, k < 8 → aA q k = if 8 - m ≤ k then nI (tx.getD (n + (k - (8 - m))) 0) else 0 := fun k hk => aA_n hq hm (fun i hi => (hf i hi).2) hk
  have nz : ∀ k, k < 8 → 8 - m ≤ k → ¬ aA q k = 0 := fun k hk c z => by
    rw [hA k hk, if_pos c] at z
    have b := hf (k - (8 - m)) (by omega)
    have := (nI_eq (by omega) (by decide)).mp (z.trans jnI0.symm)
    omega
  have hac : ∀ k, k ≤ 8 → ac q k = k - (8 - m) := by
    intro k
    induction k with
    | zero => intro _; show 0 = 0 - (8 - m); omega
    | succ k ih =>
      intro hk
      rw [ac_s, ih (by omega)]
      by_cases c : 8 - m ≤ k
      · rw [if_neg (fun z => nz k (by omega) c ((aA_0 q k).mpr z))]; omega
      · rw [if_pos ((aA_0 q k).mp (by rw [hA k (by omega), if_neg c]))]; omega
  have c1 := (ac_1 (φ := φ) (μ := φ) (n := 0) (q := q) 8 (Nat.le_refl _)).1
  obtain ⟨h1, h2, h3⟩ := h
  have L : ∀ k, k ≤ 8 → TXn (in_ad_it57 φ q k).1 tx (n + (k - (8 - m))) := by
    intro k
    induction k with
    | zero => intro _; rw [show n + (0 - (8 - m)) = n by omega]; exact ⟨h1, h2, h3⟩
    | succ k ih =>
      intro hk
      obtain ⟨t1, t2, t3⟩ := ih (by omega)
      have A : in_ad_it57 φ q (k + 1) = (if aA q k = 0 then ((in_ad_it57 φ q k).1, ((in_ad_it57 φ q k).2) + Int32.ofInt (-8)) else (if (700 : Int32) ≤ ((in_ad_it57 φ q k).1 0 3) then ((in_ad_it57 φ q k).1, ((in_ad_it57 φ q k).2) + Int32.ofInt (-8)) else (pr_up (pr_up (in_ad_it57 φ q k).1 1 (((in_ad_it57 φ q k).1 0 3).toNatClampNeg) (vp_nar .byte (aA q k))) 0 3 (((in_ad_it57 φ q k).1 0 3) + (1 : Int32)), ((in_ad_it57 φ q k).2) + Int32.ofInt (-8)))) := by
        rw [in_ad_it57, ad_s2 k (by omega), if_neg (ad_sh_s k (by omega)).1]; rfl
      rw [A]
      by_cases c : 8 - m ≤ k
      · have le : ¬ (700 : Int32) ≤ ((in_ad_it57 φ q k).1 0 3) := fun z => by
          rw [t1] at z
          have := (nI_leI (a := 700) (by decide) (by omega)).mp z
          omega
        have b := hf (k - (8 - m)) (by omega)
        have ea : vp_nar .byte (aA q k) = nI (tx.getD (n + (k - (8 - m))) 0) := by rw [hA k (by omega), if_pos c]; exact jbn b.2
        rw [if_neg (nz k (by omega) c), if_neg le, ea, t1, nI_clamp (by omega), nI_1, show n + (k + 1 - (8 - m)) = n + (k - (8 - m)) + 1 by omega]
        refine ⟨by dsimp only; rw [pr_upe], by omega, fun j hj => ?_⟩
        dsimp only
        rw [pr_upv (by decide)]
        by_cases e : j = n + (k - (8 - m))
        · rw [e, pr_upe]
        · rw [pr_upk e]; exact t3 j (by omega)
      · rw [if_pos (by rw [hA k (by omega), if_neg c]), show n + (k + 1 - (8 - m)) = n + (k - (8 - m)) by omega]
        exact ⟨t1, t2, t3⟩
  have e8 := L 8 (Nat.le_refl _)
  rw [show n + (8 - (8 - m)) = n + m by omega] at e8
  unfold fx_append in_ad
  rw [sl_eq 8, c1, hac 8 (Nat.le_refl _), h1, nI_add, if_pos (show nI (n + (8 - (8 - m))) ≤ (700 : Int32) from (nI_leI (b := 700) (by omega) (by decide)).mpr (by omega))]
  exact e8
theorem inI_ap {φ : pr_I} {q : Int64} (h : in_I φ) : in_I (fx_append φ q) := by
  unfold fx_append in_ad
  split
  · exact in_ad_I h _
  · exact h
