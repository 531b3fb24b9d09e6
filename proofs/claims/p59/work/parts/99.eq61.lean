/-! NAMES AS NUMBERS: a byte a letter -/
def pv (x : Int64) : Nat := x.toBitVec.toNat
theorem pv_inj {x y : Int64} (h : pv x = pv y) : x = y := Int64.toBitVec_inj.mp (BitVec.eq_of_toNat_eq h)
theorem pv_lt (x : Int64) : pv x < 18446744073709551616 := x.toBitVec.isLt
theorem pv_pos {z : Int64} (h : 0 ≤ z.toInt) : pv z = z.toInt.toNat := by
  have e : z.toInt = z.toBitVec.toInt := rfl
  have l := pv_lt z
  rw [e, BitVec.toInt_eq_toNat_cond] at h ⊢
  unfold pv at l ⊢
  split
  · omega
  · rename_i c
    rw [if_neg c] at h
    omega
noncomputable def pkf (f : Nat → Int32) : Nat → Int64
  | 0 => 0
  | j + 1 => (pkf f j <<< ((8 : Int32).toInt64 &&& 63)) ||| (f j).toInt64
def lt8 (f : Nat → Int32) (c : Nat) : Prop := ∀ i, i < c → 1 ≤ (f i).toInt ∧ (f i).toInt ≤ 255
theorem lt8.mono {f : Nat → Int32} {c d : Nat} (h : lt8 f c) (hd : d ≤ c) : lt8 f d := fun i hi => h i (by omega)
def pkn (f : Nat → Int32) : Nat → Nat
  | 0 => 0
  | j + 1 => 256 * pkn f j + (f j).toInt.toNat
theorem pkn_s {f : Nat → Int32} {j : Nat} : pkn f (j + 1) = 256 * pkn f j + (f j).toInt.toNat := rfl
theorem shl8 {x : Int64} : (x <<< ((8 : Int32).toInt64 &&& 63)).toBitVec = x.toBitVec <<< 8 := by
  rw [Int64.toBitVec_shiftLeft]
  show x.toBitVec <<< (((8 : Int32).toInt64 &&& 63).toBitVec.smod 64).toNat = _
  rw [show (((8 : Int32).toInt64 &&& 63).toBitVec.smod 64).toNat = 8 by decide]
theorem pv_up {x : Int64} {y : Int32} (h : pv x < 281474976710656) (h0 : 0 ≤ y.toInt) (h1 : y.toInt ≤ 255) : pv ((x <<< ((8 : Int32).toInt64 &&& 63)) ||| y.toInt64) = 256 * pv x + y.toInt.toNat := by
  have ey : pv y.toInt64 = y.toInt.toNat := by rw [pv_pos (by rw [Int32.toInt_toInt64]; exact h0), Int32.toInt_toInt64]
  unfold pv at *
  rw [Int64.toBitVec_or, shl8, BitVec.toNat_or, BitVec.toNat_shiftLeft, ey, Nat.shiftLeft_eq]
  have m : x.toBitVec.toNat * 2 ^ 8 % 2 ^ 64 = x.toBitVec.toNat * 2 ^ 8 := Nat.mod_eq_of_lt (by omega)
  rw [m, ← Nat.shiftLeft_eq, ← Nat.shiftLeft_add_eq_or_of_lt (by omega), Nat.shiftLeft_eq]
  omega
theorem pk_pv {f : Nat → Int32} : ∀ c, c ≤ 6 → lt8 f c → pv (pkf f c) = pkn f c ∧ pkn f c < 256 ^ c
  | 0, _, _ => ⟨rfl, Nat.zero_lt_one⟩
  | c + 1, hc, h => by
    obtain ⟨i1, i2⟩ := pk_pv c (by omega) (h.mono (by omega))
    obtain ⟨h1, h2⟩ := h c (by omega)
    have up : pkn f c < 281474976710656 := Nat.lt_of_lt_of_le i2 (Nat.pow_le_pow_right (n := 256) (by decide) (show c ≤ 6 by omega))
    have e : pkf f (c + 1) = (pkf f c <<< ((8 : Int32).toInt64 &&& 63)) ||| (f c).toInt64 := by rw [pkf]
    rw [e, pv_up (by rw [i1]; exact up) (by omega) h2, i1, pkn_s, Nat.pow_succ]
    exact ⟨rfl, by omega⟩
theorem pkn_1 {f : Nat → Int32} {c : Nat} (h : lt8 f (c + 1)) : 1 ≤ pkn f (c + 1) := by
  have := (h c (by omega)).1
  rw [pkn_s]; omega
theorem pkn_inj {f g : Nat → Int32} : ∀ c c', lt8 f c → lt8 g c' → pkn f c = pkn g c' → c = c' ∧ ∀ i, i < c → f i = g i
  | 0, 0, _, _, _ => ⟨rfl, fun i hi => absurd hi (by omega)⟩
  | 0, c' + 1, _, hg, e => by have := pkn_1 hg; rw [← e] at this; exact absurd this (Nat.not_succ_le_zero 0)
  | c + 1, 0, hf, _, e => by have := pkn_1 hf; rw [e] at this; exact absurd this (Nat.not_succ_le_zero 0)
  | c + 1, c' + 1, hf, hg, e => by
    have a := hf c (by omega)
    have b := hg c' (by omega)
    rw [pkn_s, pkn_s] at e
    obtain ⟨i1, i2⟩ := pkn_inj c c' (hf.mono (by omega)) (hg.mono (by omega)) (by omega)
    subst i1
    refine ⟨rfl, fun i hi => ?_⟩
    by_cases q : i = c
    · rw [q]; exact Int32.toInt_inj.mp (by omega)
    · exact i2 i (by omega)
theorem pkf_inj {f g : Nat → Int32} {c c' : Nat} (h : c ≤ 6) (h' : c' ≤ 6) (hf : lt8 f c) (hg : lt8 g c') : pkf f c = pkf g c' ↔ c = c' ∧ ∀ i, i < c → f i = g i := by
  constructor
  · intro e
    refine pkn_inj c c' hf hg ?_
    rw [← (pk_pv c h hf).1, ← (pk_pv c' h' hg).1, e]
  · rintro ⟨rfl, e⟩
    refine pv_inj ?_
    rw [(pk_pv c h hf).1, (pk_pv c h' hg).1]
    have : ∀ m, m ≤ c → pkn f m = pkn g m := by
      intro m
      induction m with
      | zero => intro _; rfl
      | succ m ih => intro hm; rw [pkn_s, pkn_s, ih (by omega), e m (by omega)]
    exact this c (Nat.le_refl _)
theorem pkf_ne {f : Nat → Int32} {c : Nat} (h : c ≤ 6) (h1 : 1 ≤ c) (hf : lt8 f c) : pkf f c ≠ 0 := fun e => by
  obtain ⟨i, rfl⟩ : ∃ i, c = i + 1 := ⟨c - 1, by omega⟩
  have := pkn_1 hf
  rw [← (pk_pv (i + 1) h hf).1, e] at this
  exact absurd this (by decide)
theorem lg_eq0 {x y : Int64} : lg_cmp x y = 0 ↔ x = y := by
  unfold lg_cmp
  constructor
  · intro h
    by_cases c : x > y
    · rw [if_pos c] at h; exact absurd h (by decide)
    · rw [if_neg c] at h
      by_cases c2 : x = y
      · exact c2
      · rw [if_neg c2] at h; exact absurd h (by decide)
  · intro h
    rw [h, if_neg (fun z => Int64.lt_irrefl z), if_pos rfl]
/-! taking the letters off again -/
theorem pv_ush {x : Int64} {s : Int64} {k : Nat} (hs : (s.toUInt64 &&& Int64.toUInt64 63).toBitVec.toNat % 64 = k) : pv ((x.toUInt64 >>> (s.toUInt64 &&& Int64.toUInt64 63)).toInt64) = pv x / 2 ^ k := by
  have e : pv ((x.toUInt64 >>> (s.toUInt64 &&& Int64.toUInt64 63)).toInt64) = (x.toUInt64 >>> (s.toUInt64 &&& Int64.toUInt64 63)).toBitVec.toNat := rfl
  rw [e, UInt64.toBitVec_shiftRight, BitVec.ushiftRight_eq', BitVec.toNat_ushiftRight, BitVec.toNat_umod, Nat.shiftRight_eq_div_pow]
  have e3 : (s.toUInt64 &&& Int64.toUInt64 63).toBitVec.toNat % (64 : BitVec 64).toNat = k := hs
  rw [e3]
  rfl
theorem pv_255 {x : Int64} : pv (x &&& 255) = pv x % 256 := by
  unfold pv
  rw [Int64.toBitVec_and, BitVec.toNat_and]
  show x.toBitVec.toNat &&& 255 = _
  exact Nat.and_two_pow_sub_one_eq_mod x.toBitVec.toNat 8
theorem pkn_div {f : Nat → Int32} : ∀ (s c : Nat), lt8 f c → s ≤ c → pkn f c / 256 ^ s = pkn f (c - s)
  | 0, c, _, _ => by rw [Nat.pow_zero, Nat.div_one, Nat.sub_zero]
  | s + 1, c, h, hs => by
    obtain ⟨d, rfl⟩ : ∃ d, c = d + 1 := ⟨c - 1, by omega⟩
    have b := h d (by omega)
    have e : pkn f (d + 1) / 256 = pkn f d := by rw [pkn_s]; omega
    rw [Nat.pow_succ, Nat.mul_comm, ← Nat.div_div_eq_div_mul, e, pkn_div s d (h.mono (by omega)) (by omega), show d + 1 - (s + 1) = d - s by omega]
theorem pkn_mod {f : Nat → Int32} {c : Nat} (h : lt8 f (c + 1)) : pkn f (c + 1) % 256 = (f c).toInt.toNat := by
  have b := h c (by omega)
  rw [pkn_s]; omega
