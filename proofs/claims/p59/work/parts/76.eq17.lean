/-! BITS -/
theorem and31 : ∀ k, k < 32 → ((nI k &&& 31).toBitVec.smod 32).toNat = k := by decide
theorem shr_bv {x : Int32} {k : Nat} (hk : k < 32) : (x >>> (nI k &&& 31)).toBitVec = x.toBitVec.sshiftRight k := by
  rw [Int32.toBitVec_shiftRight]
  show x.toBitVec.sshiftRight ((nI k &&& 31).toBitVec.smod 32).toNat = _
  rw [and31 k hk]
theorem shl_bv {x : Int32} {k : Nat} (hk : k < 32) : (x <<< (nI k &&& 31)).toBitVec = x.toBitVec <<< k := by
  rw [Int32.toBitVec_shiftLeft]
  show x.toBitVec <<< ((nI k &&& 31).toBitVec.smod 32).toNat = _
  rw [and31 k hk]
def bit (x : Int32) (k : Nat) : Bool := x.toBitVec.getLsbD k
theorem bit_eq {x : Int32} {k : Nat} (hk : k < 32) : ((x >>> (nI k &&& 31)) &&& 1) = if bit x k = true then 1 else 0 := by
  apply Int32.toBitVec_inj.mp
  rw [Int32.toBitVec_and, shr_bv hk]
  show x.toBitVec.sshiftRight k &&& 1#32 = _
  rw [BitVec.and_one_eq_setWidth_ofBool_getLsbD, BitVec.getLsbD_sshiftRight]
  unfold bit
  rw [if_pos (show k + 0 < 32 by omega), show k + 0 = k from rfl]
  cases x.toBitVec.getLsbD k <;> rfl
theorem bit_and {x y : Int32} {k : Nat} : bit (x &&& y) k = (bit x k && bit y k) := by
  unfold bit; rw [Int32.toBitVec_and, BitVec.getLsbD_and]
theorem bit_or {x y : Int32} {k : Nat} : bit (x ||| y) k = (bit x k || bit y k) := by
  unfold bit; rw [Int32.toBitVec_or, BitVec.getLsbD_or]
theorem bit_shl {x : Int32} {k j : Nat} (hk : k < 32) (hj : j < 32) : bit (x <<< (nI k &&& 31)) j = (!decide (j < k) && bit x (j - k)) := by
  unfold bit
  rw [shl_bv hk, BitVec.getLsbD_shiftLeft]
  simp [hj]
theorem bit_0 {j : Nat} : bit 0 j = false := by
  unfold bit; exact BitVec.getLsbD_zero
theorem bit_1 {j : Nat} : bit 1 j = decide (j = 0) := by
  unfold bit
  show (1#32).getLsbD j = _
  rw [BitVec.getLsbD_one]
  by_cases q : j = 0 <;> simp [q]
theorem bf_bit {u : Int32} {k : Nat} (hk : k < 32) : bf_al u k ↔ bit u k = true := by
  unfold bf_al
  rw [bit_eq hk]
  cases bit u k
  · exact ⟨fun q => absurd rfl q, fun q => absurd q (by decide)⟩
  · exact ⟨fun _ => rfl, fun _ => by decide⟩
theorem has_bit {b : pr_I} {v : Int32} {k : Nat} (hk : k < 32) : m_has_r b v (nI k) = 0 ↔ ¬ bit v k = true := by
  unfold m_has_r
  rw [bit_eq hk]
  cases bit v k
  · exact ⟨fun _ q => absurd q (by decide), fun _ => rfl⟩
  · exact ⟨fun q => absurd q (by decide), fun q => absurd rfl q⟩
theorem HU.of {u v : Int32} {nl : Nat} (hl : nl ≤ 24) (h : ∀ k, k < nl → bit u k = bit v k) : HU u v nl := fun k hk b => by
  rw [has_bit (by omega), bf_bit (by omega), h k hk]
theorem lk_bit {σ : pr_I} {k : Nat} (hk : k < 32) : lk_up σ k = if bit (σ 1 7) k = true then 1 else 0 := by
  unfold lk_up; exact bit_eq hk
/-- the links that are up, on both sides -/
theorem up_it {σ μ : pr_I} {nl : Nat} (h : ∀ k, k < nl → lk_up σ k = μ 1 (96 + 7 * k + 5)) (hl : nl ≤ 24) : ∀ n, n ≤ nl → ∀ j, j < 32 → bit (m_up_it4 μ nl n) j = (decide (j < n) && bit (σ 1 7) j)
  | 0, _, j, _ => by
    show bit 0 j = _
    rw [bit_0]; simp
  | n + 1, hn, j, hj => by
    have ih := up_it h hl n (by omega) j hj
    rw [m_up_it4, bit_or, ih, ← h n (by omega), bit_shl (by omega) hj, lk_bit (by omega)]
    by_cases c : bit (σ 1 7) n = true
    · rw [if_pos c, bit_1]
      by_cases q1 : j < n
      · simp [q1, show j < n + 1 by omega]
      · by_cases q2 : j = n
        · subst q2; simp [c]
        · simp [q1, show ¬ j < n + 1 by omega, show ¬ j - n = 0 by omega]
    · rw [if_neg c, bit_0]
      by_cases q1 : j < n
      · simp [q1, show j < n + 1 by omega]
      · by_cases q2 : j = n
        · subst q2
          have c' : bit (σ 1 7) j = false := by cases e : bit (σ 1 7) j; rfl; exact absurd e c
          simp [c']
        · simp [q1, show ¬ j < n + 1 by omega]
theorem HU.up {σ μ : pr_I} {nl : Nat} {x : Int32} (h : ∀ k, k < nl → lk_up σ k = μ 1 (96 + 7 * k + 5)) (hl : nl ≤ 24) : HU (σ 1 7 &&& x) (m_up_r μ nl &&& x) nl := by
  refine HU.of hl (fun k hk => ?_)
  unfold m_up_r
  rw [bit_and, bit_and, up_it h hl nl (Nat.le_refl _) k (by omega)]
  simp [hk]
