/-! APPEND ON BOTH SIDES -/
noncomputable def aw (q : Int64) (k : Nat) : Int64 := (q.toUInt64 >>> ((ad_sh k).toInt64.toUInt64 &&& Int64.toUInt64 63)).toInt64
noncomputable def aB (q : Int64) (k : Nat) : Int32 := (aw q k &&& (255 : Int64)).toInt32
noncomputable def aA (q : Int64) (k : Nat) : Int32 := (aw q k).toInt32.toInt8.toInt32
theorem and255 (w : Int64) : (w &&& (255 : Int64)).toInt = ((w.toBitVec.toNat % 256 : Nat) : Int) := by
  have e : (w &&& (255 : Int64)).toBitVec.toNat = w.toBitVec.toNat % 256 := by
    rw [Int64.toBitVec_and, BitVec.toNat_and]
    show w.toBitVec.toNat &&& (2 ^ 8 - 1) = _
    rw [Nat.and_two_pow_sub_one_eq_mod]
  have d : (w &&& (255 : Int64)).toInt = (w &&& (255 : Int64)).toBitVec.toInt := rfl
  rw [d, BitVec.toInt_eq_toNat_cond, e, if_pos (by omega)]
theorem w_mod (w : Int64) : w.toInt % 256 = ((w.toBitVec.toNat % 256 : Nat) : Int) := by
  have d : w.toInt = w.toBitVec.toInt := rfl
  have l := w.toBitVec.isLt
  rw [d, BitVec.toInt_eq_toNat_cond]
  split <;> omega
theorem bmod8 (x : Int) : x.bmod 256 = if x % 256 < 128 then x % 256 else x % 256 - 256 := by
  rw [Int.bmod_def]
  split <;> split <;> omega
theorem a_B (w : Int64) : (w &&& (255 : Int64)).toInt32.toInt = ((w.toBitVec.toNat % 256 : Nat) : Int) := by
  rw [Int64.toInt_toInt32, and255]
  exact bm32 (by omega) (by omega)
theorem a_A (w : Int64) : w.toInt32.toInt8.toInt32.toInt = if ((w.toBitVec.toNat % 256 : Nat) : Int) < 128 then ((w.toBitVec.toNat % 256 : Nat) : Int) else ((w.toBitVec.toNat % 256 : Nat) : Int) - 256 := by
  have h : w.toInt32.toInt8.toInt32.toInt = w.toInt.bmod 256 := by
    rw [Int8.toInt_toInt32, Int32.toInt_toInt8, Int64.toInt_toInt32]
    exact Int.bmod_bmod_of_dvd (by decide)
  rw [h, bmod8, w_mod]
theorem a_nar (x : Int32) : vp_nar .byte x.toInt8.toInt32 = x.toInt8.toInt32 := by
  have h : vp_nar .byte x.toInt8.toInt32 = x.toInt8.toInt32.toInt8.toInt32 := rfl
  rw [h]
  refine Int32.toInt_inj.mp ?_
  rw [Int8.toInt_toInt32, Int32.toInt_toInt8, Int8.toInt_toInt32, Int32.toInt_toInt8]
  exact Int.bmod_bmod_of_dvd (by decide)
theorem aB_r (q : Int64) (k : Nat) : 0 ≤ (aB q k).toInt ∧ (aB q k).toInt ≤ 255 := by
  unfold aB; rw [a_B]; omega
theorem aA_r (q : Int64) (k : Nat) : (aA q k).toInt = if (aB q k).toInt < 128 then (aB q k).toInt else (aB q k).toInt - 256 := by
  unfold aA aB; rw [a_A, a_B]
theorem aA_0 (q : Int64) (k : Nat) : aA q k = 0 ↔ aB q k = 0 := by
  have h := aA_r q k
  have r := aB_r q k
  constructor
  · intro e
    rw [e] at h
    refine Int32.toInt_inj.mp ?_
    show (aB q k).toInt = 0
    rw [show (0 : Int32).toInt = 0 from rfl] at h
    split at h <;> omega
  · intro e
    rw [e] at h
    exact Int32.toInt_inj.mp h
theorem aB_0 (q : Int64) (k : Nat) : lg_cmp (aw q k &&& (255 : Int64)) 0 = 0 ↔ aB q k = 0 := by
  rw [lg_eq0]
  unfold aB
  constructor
  · intro e; rw [e]; rfl
  · intro e
    have h := a_B (aw q k)
    rw [e] at h
    refine Int64.toInt_inj.mp ?_
    rw [and255, ← h]; rfl
/-- the bytes that are not 0 -/
noncomputable def ac (q : Int64) : Nat → Nat
  | 0 => 0
  | k + 1 => ac q k + (if aB q k = 0 then 0 else 1)
theorem ac_s {q : Int64} {k : Nat} : ac q (k + 1) = ac q k + (if aB q k = 0 then 0 else 1) := rfl
theorem ac_le {q : Int64} : ∀ k, ac q k ≤ k
  | 0 => Nat.le_refl _
  | k + 1 => by rw [ac_s]; have := ac_le (q := q) k; split <;> omega
theorem ac_mono {q : Int64} {k : Nat} : ∀ d, ac q k ≤ ac q (k + d)
  | 0 => Nat.le_refl _
  | d + 1 => by rw [← Nat.add_assoc, ac_s]; have := ac_mono (q := q) (k := k) d; omega
theorem TB.nx {a b a' b' : Nat → Int32} {m : Nat} (h : TB a b m) (ea : ∀ i, i < m → a' i = a i) (eb : ∀ i, i < m → b' i = b i) (n1 : 1 ≤ (b' m).toInt) (n2 : (b' m).toInt ≤ 255) (n3 : (a' m).toInt = if (b' m).toInt < 128 then (b' m).toInt else (b' m).toInt - 256) : TB a' b' (m + 1) := fun i hi => by
  by_cases z : i = m
  · rw [z]; exact ⟨n1, n2, n3⟩
  · rw [ea i (by omega), eb i (by omega)]; exact h i (by omega)
section APP
variable {φ μ : pr_I} {n : Nat} {q : Int64}
theorem ac_1 : ∀ k, k ≤ 8 → (in_ad_it6 φ q k).1 = nI (ac q k) ∧ (mf_append_it11 μ n q k).1 = nI (ac q k)
  | 0, _ => ⟨rfl, rfl⟩
  | k + 1, h => by
    obtain ⟨i1, i2⟩ := ac_1 k (by omega)
    have add : ∀ z : Int32, z = nI (ac q k) → z + (if lg_cmp (aw q k &&& (255 : Int64)) 0 = 0 then (0 : Int32) else 1) = nI (ac q (k + 1)) := fun z e => by
      rw [e, ac_s]
      by_cases c : aB q k = 0
      · rw [if_pos c, if_pos ((aB_0 q k).mpr c)]; exact Int32.add_zero _
      · rw [if_neg c, if_neg (fun w => c ((aB_0 q k).mp w)), nI_1]
    rw [in_ad_it6, mf_append_it11, ad_s1 k (by omega), ap_s1 k (by omega), if_neg (ad_sh_s k (by omega)).1, if_neg (ad_sh_s k (by omega)).1]
    exact ⟨add _ i1, add _ i2⟩
theorem ap_loop (t : TXT φ μ n) (h8 : n + ac q 8 ≤ 700) : ∀ k, k ≤ 8 → TXT (in_ad_it57 φ q k).1 (mf_append_it62 μ n q k).1 (n + ac q k)
  | 0, _ => by
    obtain ⟨t1, t2, t3, t4, t5⟩ := t
    refine ⟨t1, ?_, t3, ?_, ?_⟩
    · show (pr_up μ 0 6 (0 : Int32)) 0 8 = _
      rw [pr_upk (by decide)]; exact t2
    · show TB (φ 1) ((pr_up μ 0 6 (0 : Int32)) 7) n
      rw [pr_up_ne (by decide)]; exact t4
    · show φ 0 0 = (pr_up μ 0 6 (0 : Int32)) 0 13
      rw [pr_upk (by decide)]; exact t5
  | k + 1, hk => by
    obtain ⟨t1, t2, t3, t4, t5⟩ := ap_loop t h8 k (by omega)
    have A : in_ad_it57 φ q (k + 1) = (if aA q k = 0 then ((in_ad_it57 φ q k).1, ((in_ad_it57 φ q k).2) + Int32.ofInt (-8)) else (if (700 : Int32) ≤ ((in_ad_it57 φ q k).1 0 3) then ((in_ad_it57 φ q k).1, ((in_ad_it57 φ q k).2) + Int32.ofInt (-8)) else (pr_up (pr_up (in_ad_it57 φ q k).1 1 (((in_ad_it57 φ q k).1 0 3).toNatClampNeg) (vp_nar .byte (aA q k))) 0 3 (((in_ad_it57 φ q k).1 0 3) + (1 : Int32)), ((in_ad_it57 φ q k).2) + Int32.ofInt (-8)))) := by
      rw [in_ad_it57, ad_s2 k (by omega), if_neg (ad_sh_s k (by omega)).1]; rfl
    have B : mf_append_it62 μ n q (k + 1) = (if aB q k = 0 then ((mf_append_it62 μ n q k).1, ((mf_append_it62 μ n q k).2) + Int32.ofInt (-8)) else (pr_up (pr_up (mf_append_it62 μ n q k).1 7 (((mf_append_it62 μ n q k).1 0 8).toNatClampNeg) (aB q k)) 0 8 (((mf_append_it62 μ n q k).1 0 8) + (1 : Int32)), ((mf_append_it62 μ n q k).2) + Int32.ofInt (-8))) := by
      rw [mf_append_it62, ap_s2 k (by omega), if_neg (ad_sh_s k (by omega)).1]; rfl
    rw [A, B, ac_s]
    by_cases c : aB q k = 0
    · rw [if_pos c, if_pos c, if_pos ((aA_0 q k).mpr c)]
      exact ⟨t1, t2, t3, t4, t5⟩
    · have lt : n + ac q k < 700 := by
        have m := ac_mono (q := q) (k := k + 1) (7 - k)
        rw [show k + 1 + (7 - k) = 8 by omega, ac_s, if_neg c] at m
        omega
      have le : ¬ (700 : Int32) ≤ ((in_ad_it57 φ q k).1 0 3) := fun z => by
        rw [t1] at z
        have := (nI_leI (a := 700) (by decide) (by omega)).mp z
        omega
      have ex : (if aB q k = 0 then 0 else 1) = 1 := if_neg c
      rw [if_neg c, if_neg (fun z => c ((aA_0 q k).mp z)), if_neg le, t1, t2, nI_clamp (by omega), nI_1, if_neg c, ← Nat.add_assoc]
      have r := aB_r q k
      have nz : (aB q k).toInt ≠ 0 := fun w => c (Int32.toInt_inj.mp w)
      refine ⟨by dsimp only; rw [pr_upe], by dsimp only; rw [pr_upe], by omega, ?_, ?_⟩
      · show TB ((pr_up (pr_up (in_ad_it57 φ q k).1 1 (n + ac q k) (vp_nar .byte (aA q k))) 0 3 (nI (n + ac q k + 1))) 1) ((pr_up (pr_up (mf_append_it62 μ n q k).1 7 (n + ac q k) (aB q k)) 0 8 (nI (n + ac q k + 1))) 7) (n + ac q k + 1)
        have ea : vp_nar .byte (aA q k) = aA q k := a_nar _
        rw [pr_up_ne (show (7 : Nat) ≠ 0 by decide), pr_up_ne (show (1 : Nat) ≠ 0 by decide), ea]
        exact t4.nx (fun i hi => pr_upk (by omega)) (fun i hi => pr_upk (by omega)) (by rw [pr_upe]; omega) (by rw [pr_upe]; exact r.2) (by rw [pr_upe, pr_upe]; exact aA_r q k)
      · show (pr_up (pr_up (in_ad_it57 φ q k).1 1 (n + ac q k) (vp_nar .byte (aA q k))) 0 3 (nI (n + ac q k + 1))) 0 0 = (pr_up (pr_up (mf_append_it62 μ n q k).1 7 (n + ac q k) (aB q k)) 0 8 (nI (n + ac q k + 1))) 0 13
        rw [pr_upk (by decide), pr_upk (by decide), pr_up_ne (by decide), pr_up_ne (by decide)]
        exact t5
theorem eq_append (t : TXT φ μ n) : fx_append_r φ q = mf_append_r μ n q ∧ (∃ n', TXT (fx_append φ q) (mf_append μ n q) n') ∧ (((nI n) + ((mf_append_it11 μ n q (sl 8)).1)) ≤ (700 : Int32) → ∀ k, k < 8 → ¬ ((((q.toUInt64 >>> ((((mf_append_it62 μ n q k).2)).toInt64.toUInt64 &&& Int64.toUInt64 63)).toInt64 &&& (255 : Int64))).toInt32) = 0 → vp_in ((mf_append_it62 μ n q k).1 0 8) 700) := by
  have t' := t
  obtain ⟨t1, t2, t3, t4, t5⟩ := t
  obtain ⟨c1, c2⟩ := ac_1 (φ := φ) (μ := μ) (n := n) (q := q) 8 (Nat.le_refl _)
  have l8 := ac_le (q := q) 8
  have su : (nI n + nI (ac q 8) : Int32) ≤ (700 : Int32) ↔ n + ac q 8 ≤ 700 := by
    rw [le_i, i_add (by rw [nI_toI (by omega), nI_toI (by omega)]; omega) (by rw [nI_toI (by omega), nI_toI (by omega)]; omega), nI_toI (by omega), nI_toI (by omega)]
    show ((n : Int) + (ac q 8 : Nat) ≤ 700) ↔ _
    omega
  unfold fx_append_r fx_append in_ad_r in_ad mf_append_r mf_append
  rw [sl_eq 8, c1, c2, t1]
  by_cases c : n + ac q 8 ≤ 700
  · have L := ap_loop t' c
    rw [if_pos (su.mpr c), if_pos (su.mpr c), if_pos (su.mpr c), if_pos (su.mpr c)]
    refine ⟨(L 8 (Nat.le_refl _)).1.trans (L 8 (Nat.le_refl _)).2.1.symm, ⟨_, L 8 (Nat.le_refl _)⟩, fun _ k hk nz => ?_⟩
    rw [ap_s2 k (by omega)] at nz
    have nz' : ¬ aB q k = 0 := nz
    have m := ac_mono (q := q) (k := k + 1) (7 - k)
    rw [show k + 1 + (7 - k) = 8 by omega, ac_s, if_neg nz'] at m
    rw [(L k (by omega)).2.1]
    exact nI_vin (by omega) (by decide)
  · rw [if_neg (fun z => c (su.mp z)), if_neg (fun z => c (su.mp z)), if_neg (fun z => c (su.mp z)), if_neg (fun z => c (su.mp z))]
    refine ⟨rfl, ⟨n, t1, ?_, t3, ?_, ?_⟩, fun z => absurd (su.mp z) c⟩
    · rw [pr_upk (by decide)]; exact t2
    · rw [pr_up_ne (by decide)]; exact t4
    · rw [pr_upk (by decide)]; exact t5
end APP
