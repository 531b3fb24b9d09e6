/-! WAYS: delays and holds -/
section WYS2
variable {σ μ : pr_I}
/-- sums of delays -/
def DS (σ : pr_I) (ls : Nat → Nat) (b : Nat) : Nat → Int
  | 0 => 0
  | k + 1 => DS σ ls b k + (σ 6 (ls (b + k))).toInt
theorem DS_sp {ls : Nat → Nat} {b m : Nat} : ∀ k, DS σ ls b (m + k) = DS σ ls b m + DS σ ls (b + m) k
  | 0 => by rw [DS, Nat.add_zero]; omega
  | k + 1 => by
    rw [← Nat.add_assoc, DS, DS, DS_sp k, Nat.add_assoc b m k]; omega
theorem DS_bd {ls : Nat → Nat} {n : Nat} (hd : ∀ p, p < n → 1 ≤ (σ 6 (ls p)).toInt ∧ (σ 6 (ls p)).toInt ≤ 50) {b : Nat} : ∀ k, b + k ≤ n → (k : Int) ≤ DS σ ls b k ∧ DS σ ls b k ≤ 50 * (k : Int)
  | 0, _ => ⟨Int.le_refl _, Int.le_refl _⟩
  | k + 1, h => by
    have ih := DS_bd hd (b := b) k (by omega)
    have := hd (b + k) (by omega)
    rw [DS]; omega
theorem de_eq {F : pr_I} {ls : Nat → Nat} {n b : Nat} (f6 : F 6 = σ 6) (hp : ∀ p, p < n → F 117 p = nI (ls p) ∧ ls p < 24) (hd : ∀ p, p < n → 1 ≤ (σ 6 (ls p)).toInt ∧ (σ 6 (ls p)).toInt ≤ 50) (n11 : n ≤ 11) : ∀ k, b + k ≤ n → (pt_sum_de F b k).toInt = DS σ ls b k
  | 0, _ => rfl
  | k + 1, h => by
    have ih := de_eq (b := b) f6 hp hd n11 k (by omega)
    have bd := DS_bd hd (b := b) k (by omega)
    have d := hd (b + k) (by omega)
    have q := hp (b + k) (by omega)
    rw [pt_sum_de, f6, q.1, nI_clamp (by omega), i_add (by omega) (by omega), ih, DS]
theorem hold_le (h : WT σ μ) {s t : Nat} (hs : s < ndn σ) (ht : t < ndn σ) (hst : s ≠ t) {z : Int32} (r : RR σ s t z) : (fx_neededHold_r σ s t z).toInt ≤ (fx_roundTrip_r σ s t z).toInt := by
  have h24 := wI_nl24 h.1.cr.w
  rcases way4 h hs ht hst z with ⟨_, a, _⟩ | ⟨n, ls, np, n1, n11, _, e1, e2, e3, e4, _, _, _⟩
  · exact absurd r a
  · have f6 : fx_fp σ s t z 6 = σ 6 := fr_pt_find (by decide)
    have hd : ∀ p, p < n → 1 ≤ (σ 6 (ls p)).toInt ∧ (σ 6 (ls p)).toInt ≤ 50 := fun p hp => (h.1.lk _ (e3 p hp).2).2.2.2.2.1
    have hp : ∀ p, p < n → fx_fp σ s t z 117 p = nI (ls p) ∧ ls p < 24 := fun p hp => ⟨(e3 p hp).1, by have := (e3 p hp).2; omega⟩
    have cn0 : ¬ nI n = 0 := fun y => by have := (nI_eq (b := 0) (by omega) (by decide)).mp y; omega
    have i2' : (2 : Int32).toInt = 2 := rfl
    have i1' : (1 : Int32).toInt = 1 := rfl
    have dn := DS_bd hd (b := 0) n (by omega)
    have tot := de_eq (b := 0) f6 hp hd n11 n (by omega)
    have RT : (fx_roundTrip_r σ s t z).toInt = 2 * DS σ ls 0 n := by
      unfold fx_roundTrip_r
      rw [e1, if_neg cn0, e2, Nat.sub_zero, i_mul (by rw [i2', tot]; omega) (by rw [i2', tot]; omega), i2', tot]
    have L : ∀ k, k ≤ n → 0 ≤ (fx_neededHold_it15 σ s t z k).toInt ∧ (fx_neededHold_it15 σ s t z k).toInt + 1 ≤ 2 * DS σ ls 0 n := by
      intro k
      induction k with
      | zero => intro _; have e : (fx_neededHold_it15 σ s t z 0).toInt = 0 := rfl; omega
      | succ k ih =>
        intro hk
        have ih := ih (by omega)
        have q := hp k (by omega)
        have d := hd k (by omega)
        have s1 := DS_sp (σ := σ) (ls := ls) (b := 0) (m := k + 1) (n - (k + 1))
        rw [show k + 1 + (n - (k + 1)) = n by omega, Nat.zero_add] at s1
        have s2 : DS σ ls 0 (k + 1) = DS σ ls 0 k + (σ 6 (ls (0 + k))).toInt := rfl
        rw [Nat.zero_add] at s2
        have b1 := DS_bd hd (b := 0) k (by omega)
        have b2 := DS_bd hd (b := k + 1) (n - (k + 1)) (by omega)
        have t2 := de_eq (b := k + 1) f6 hp hd n11 (n - (k + 1)) (by omega)
        have v : ((2 : Int32) * (pt_sum_de (fx_fp σ s t z) (k + 1) (n - (k + 1))) + σ 6 (ls k)).toInt = 2 * DS σ ls (k + 1) (n - (k + 1)) + (σ 6 (ls k)).toInt := by
          have m2 : ((2 : Int32) * (pt_sum_de (fx_fp σ s t z) (k + 1) (n - (k + 1)))).toInt = 2 * DS σ ls (k + 1) (n - (k + 1)) := by rw [i_mul (by rw [i2', t2]; omega) (by rw [i2', t2]; omega), i2', t2]
          rw [i_add (by omega) (by omega), m2]
        rw [fx_neededHold_it15, e2, f6, q.1, nI_clamp (by omega)]
        split
        · rw [v]; omega
        · exact ih
    have Ln := L n (Nat.le_refl _)
    rw [RT]
    unfold fx_neededHold_r
    rw [e1, if_neg cn0, i_add (by omega) (by omega), i1']
    omega
end WYS2
