/-! THE LAW'S LOOP -/
section LLP
variable {g : pr_C} {X : pr_X} {Q : State → Prop} {T : pr_T} {I : pr_I} {L : pr_L} {b N x : Nat} {xs : Nat → Int32}
theorem lw_head (hA : pr_Am g X mLaw 13 601024 7293034) (hs : Scr g X b N xs) (hN : N ≤ 2560) {cs sl j : Nat} (hj : 5 * j ≤ 2564) (kt : pr_G g X 8 Q cs sl 3262 (lwL b x (nI (5 * j))) [] T I L) (kf : 5 * j + 5 ≤ N → pr_G g X 8 Q cs sl 32 (lwL b x (nI (5 * j))) [] T I L) : pr_G g X 8 Q cs sl 23 (lwL b x (nI (5 * j))) [] T I L := by
  refine pr_iload hA dM_23 rfl ?_
  refine pr_aload_n (n := 0) hA dM_25 rfl ?_
  refine hs.2 _ _ _ _ _ _ _ _ _ dM_26 ?_
  refine pr_iconst hA 5 dM_27 (by decide) ?_
  refine pr_isub hA dM_28 ?_
  refine pr_icmp_gt hA 3262 dM_29 (by decide) (fun _ => kt) (fun c => kf ?_)
  have e : (nI N - 5).toInt = (N : Int) - 5 := by
    rw [i_sub (by rw [nI_toI (by omega), show (5 : Int32).toInt = 5 from rfl]; omega) (by rw [nI_toI (by omega), show (5 : Int32).toInt = 5 from rfl]; omega), nI_toI (by omega), show (5 : Int32).toInt = 5 from rfl]
  have c' : ¬ (nI N - 5 : Int32) < nI (5 * j) := c
  rw [lt_i, e, nI_toI (by omega)] at c'
  omega
theorem lw_in {i : Nat} {k : Nat} (h : i + k < N) (hN : N ≤ 2560) : vp_in (nI i + nI k) N := by
  rw [nI_add]
  exact nI_vin h (by omega)
theorem lw_loop (hA : pr_Am g X mLaw 13 601024 7293034) (hs : Scr g X b N xs) (hN : N ≤ 2560) (c0 s0 : Nat) (hc0 : c0 + 122 * 513 ≤ 601024) (hs0 : s0 + 5821 * 513 ≤ 7293034) (fin : ∀ (cs sl : Nat) (ls : List Value) (T : pr_T) (I : pr_I) (L : pr_L), cs ≤ 601024 → sl ≤ 7293034 → pr_G g X 8 Q cs sl 3262 ls [] T I L) : ∀ (k j : Nat) (T : pr_T) (I : pr_I) (L : pr_L), N ≤ 5 * j + 5 * k + 4 → 5 * j ≤ 2564 → LI x T I L → pr_G g X 8 Q (c0 + 122 * j) (s0 + 5821 * j) 23 (lwL b x (nI (5 * j))) [] T I L
  | 0, j, T, I, L, h1, h2, _ => lw_head hA hs hN h2 (fin _ _ _ _ _ _ (by omega) (by omega)) (fun c => absurd c (by omega))
  | k + 1, j, T, I, L, h1, h2, h => by
    refine lw_head hA hs hN h2 (fin _ _ _ _ _ _ (by omega) (by omega)) (fun c => ?_)
    refine pr_aload_n (n := 0) hA dM_32 rfl ?_
    refine pr_iload hA dM_33 rfl ?_
    refine hs.1 _ _ _ _ _ _ _ _ _ _ (nI_vin (by omega) (by omega)) dM_35 ?_
    refine pr_bipush hA 63 dM_36 (by decide) ?_
    refine pr_iand hA dM_38 ?_
    refine lw_sw hA hs (lw_in (k := 1) (by omega) hN) (lw_in (k := 2) (by omega) hN) (lw_in (k := 3) (by omega) hN) (lw_in (k := 4) (by omega) hN) (by omega) (by omega) h (fun T' I' L' h' => ?_)
    refine pr_iinc (ls' := lwL b x (nI (5 * (j + 1)))) hA (nI (5 * (j + 1))) dM_3256 (by decide) rfl ?_ rfl ?_
    · rw [show Int32.ofInt 5 = nI 5 from rfl, nI_add]
      congr 1
    refine pr_goto hA 23 dM_3259 (by decide) ?_
    exact pr_more (by omega) (by omega) (lw_loop hA hs hN c0 s0 hc0 hs0 fin k (j + 1) T' I' L' (by omega) (by omega) h')
end LLP
