/-! NAMES AND THE ERROR OF LOAD ON BOTH SIDES -/
theorem lt8_0 {a b : Nat → Int32} {n : Nat} (h : TB a b n) : lt8 (fun i => b (0 + i)) n := fun i hi => by
  obtain ⟨h1, h2, _⟩ := h i hi
  show 1 ≤ (b (0 + i)).toInt ∧ (b (0 + i)).toInt ≤ 255
  rw [Nat.zero_add]; exact ⟨h1, h2⟩
theorem and255_i (x : Int32) : (x &&& (255 : Int32)).toInt = x.toInt % 256 := by
  have e : (x &&& (255 : Int32)).toBitVec.toNat = x.toBitVec.toNat % 256 := by
    rw [Int32.toBitVec_and, BitVec.toNat_and]
    show x.toBitVec.toNat &&& (2 ^ 8 - 1) = _
    rw [Nat.and_two_pow_sub_one_eq_mod]
  have d : (x &&& (255 : Int32)).toInt = (x &&& (255 : Int32)).toBitVec.toInt := rfl
  have d' : x.toInt = x.toBitVec.toInt := rfl
  rw [d, BitVec.toInt_eq_toNat_cond, e, if_pos (by omega), d', BitVec.toInt_eq_toNat_cond]
  have l := x.toBitVec.isLt
  split <;> omega
section NME
variable {φ τ μ : pr_I} {ν : Nat → Int64} {n : Nat}
theorem tn_it (t : TXT φ μ n) (h6 : n ≤ 6) : ∀ k, k ≤ 6 → in_tn_it4 φ k = pkf (fun i => μ 7 (0 + i)) (if k ≤ n then k else n)
  | 0, _ => by rw [if_pos (Nat.zero_le _)]; rfl
  | k + 1, hk => by
    rw [in_tn_it4, t.1, tn_it t h6 k (by omega)]
    by_cases c : n ≤ k
    · rw [if_pos ((nI_leI (by omega) (by omega)).mpr c)]
      congr 1
      split <;> split <;> omega
    · rw [if_neg (fun z => c ((nI_leI (by omega) (by omega)).mp z)), if_pos (show k ≤ n by omega), if_pos (show k + 1 ≤ n by omega), pkf]
      obtain ⟨b1, b2, b3⟩ := t.2.2.2.1 k (by omega)
      have e : (φ 1 k &&& (255 : Int32)) = μ 7 (0 + k) := Int32.toInt_inj.mp (by
        rw [and255_i, Nat.zero_add, b3]
        split <;> omega)
      rw [e]
theorem tn_wd (t : TXT φ μ n) : in_tn_r φ = wd (μ 7) 0 n := by
  unfold in_tn_r wd
  rw [t.1, sl_eq 6]
  by_cases c : n ≤ 6
  · rw [if_pos (show nI n ≤ (6 : Int32) from (nI_leI (b := 6) (by have := t.2.2.1; omega) (by decide)).mpr c), if_pos (show nI 0 = 0 from rfl), if_pos c, tn_it t c 6 (Nat.le_refl _)]
    congr 1
    split <;> omega
  · rw [if_neg (show ¬ nI n ≤ (6 : Int32) from fun z => c ((nI_leI (b := 6) (by have := t.2.2.1; omega) (by decide)).mp z)), if_neg (by decide), if_neg c]
theorem it9_nmd {nn : Nat} (hn : n ≤ 700) (nm : NM ν (μ 1) nn) : ∀ k, k ≤ nn → mf_nodeNamed_it9 μ n k = nmd (μ 1) (μ 7) 0 n k
  | 0, _ => rfl
  | k + 1, hk => by
    rw [mf_nodeNamed_it9, nmd, it9_nmd hn nm k (by omega)]
    by_cases c : n ≤ 6
    · rw [if_neg (show ¬ (6 : Int32) < nI n from fun z => by have := lt_i.mp z; rw [nI_toI (by omega), show (6 : Int32).toInt = 6 from rfl] at this; omega)]
    · rw [if_pos (show (6 : Int32) < nI n from lt_i.mpr (by rw [nI_toI (by omega), show (6 : Int32).toInt = 6 from rfl]; omega)), if_pos]
      rw [inm_0 hn]
      intro z
      obtain ⟨c0, x1, x2, x3, _⟩ := nm.1 k (by omega)
      have := (nI_eq (by omega) (by omega)).mp (x3.symm.trans z.1)
      omega
theorem TXT.nil (t : TXT φ μ n) {φ' μ' : pr_I} (h1 : φ' 0 3 = 0) (h2 : μ' 0 8 = 0) (h3 : φ' 0 0 = φ 0 0) (h4 : μ' 0 13 = μ 0 13) : TXT φ' μ' 0 :=
  ⟨h1.trans rfl, h2.trans rfl, by decide, fun k hk => absurd hk (by omega), h3.trans (t.2.2.2.2.trans h4.symm)⟩
theorem eq_nodeNamed (t : TXT φ μ n) (hx : WX τ μ) (nm : NM ν (μ 1) (ndn τ)) : fx_nodeNamed_r φ τ ν = mf_nodeNamed_r μ n ∧ TXT (fx_nodeNamed φ τ ν) (mf_nodeNamed μ n) 0 ∧ WX τ (mf_nodeNamed μ n) := by
  have n12 : ndn τ ≤ 12 := Nat.le_of_lt_succ (vp_in_lt (hx.1.1.cr.w 0 6 13 rfl))
  have e6 : mnn μ = ndn τ := by
    unfold mnn ndn
    rw [show τ 0 6 = μ 1 6 from hx.1.1.cr.rc.g (j := 6) (by decide)]
  have hm : mI (mf_nodeNamed μ n) := mI.upn (mI.upn hx.1.1.cr.m rfl) rfl
  refine ⟨?_, t.nil ?_ ?_ ?_ ?_, hx.cells hm (fun j _ => ?_)⟩
  · unfold fx_nodeNamed_r mf_nodeNamed_r
    rw [tn_wd t, e6, it9_nmd t.2.2.1 nm _ (Nat.le_refl _)]
    exact (nm.look n12 (lt8_0 t.2.2.2.1) t.2.2.1).1
  · unfold fx_nodeNamed in_tn; exact pr_upe
  · unfold mf_nodeNamed; exact pr_upe
  · unfold fx_nodeNamed in_tn; exact pr_upk (by decide)
  · show (pr_up (pr_up μ 0 6 (0 : Int32)) 0 8 (0 : Int32)) 0 13 = _
    rw [pr_upk (by decide), pr_upk (by decide)]
  · show (pr_up (pr_up μ 0 6 (0 : Int32)) 0 8 (0 : Int32)) 1 j = _
    rw [pr_upv (by decide), pr_upv (by decide)]
theorem TXT.up6 (t : TXT φ μ n) : TXT φ (pr_up μ 0 6 (0 : Int32)) n := ⟨t.1, (pr_upk (by decide)).trans t.2.1, t.2.2.1, by rw [pr_up_ne (by decide)]; exact t.2.2.2.1, t.2.2.2.2.trans (pr_upk (by decide)).symm⟩
theorem eq_loadError (t : TXT φ μ n) : fx_loadError_r φ = mf_loadError_r μ ∧ TXT φ (mf_loadError μ) n := ⟨t.2.2.2.2, t.up6⟩
/-! a letter of a name -/
theorem lo_k {q : Int64} {i : Int32} {f : Nat → Int32} {c : Nat} (c6 : c ≤ 6) (h : lt8 f c) (e : q = pkf f c) : ∀ k, (lo_it5 τ q i k).1 = nI (if k ≤ c then k else c) ∧ pv (lo_it5 τ q i k).2 = pkn f (c - k)
  | 0 => ⟨by rw [if_pos (Nat.zero_le _)]; rfl, by rw [Nat.sub_zero, ← (pk_pv c c6 h).1, ← e]; rfl⟩
  | k + 1 => by
    obtain ⟨i1, i2⟩ := lo_k (i := i) c6 h e k
    rw [lo_it5]
    by_cases d : k < c
    · have nz : ¬ lg_cmp (lo_it5 τ q i k).2 (0 : Int64) = 0 := by
        rw [lg_eq0]
        intro z
        rw [z] at i2
        obtain ⟨m, em⟩ : ∃ m, c - k = m + 1 := ⟨c - k - 1, by omega⟩
        rw [em] at i2
        have := pkn_1 (h.mono (d := m + 1) (by omega))
        rw [← i2] at this
        exact absurd this (by decide)
      have le : ¬ (6 : Int32) ≤ (lo_it5 τ q i k).1 := by
        rw [i1, if_pos (by omega)]
        intro z
        have := (nI_leI (a := 6) (by decide) (by omega)).mp z
        omega
      rw [if_neg nz, if_neg le]
      refine ⟨?_, ?_⟩
      · show (lo_it5 τ q i k).1 + Int32.ofInt 1 = _
        rw [i1, if_pos (show k ≤ c by omega), if_pos (show k + 1 ≤ c by omega)]
        exact nI_1 k
      · show pv (((lo_it5 τ q i k).2).toUInt64 >>> (((8 : Int32)).toInt64.toUInt64 &&& Int64.toUInt64 63)).toInt64 = _
        rw [pv_ush (k := 8) (by decide), i2]
        have D := pkn_div 1 (c - k) (h.mono (by omega)) (by omega)
        rw [Nat.pow_one] at D
        rw [show c - (k + 1) = c - k - 1 by omega, ← D]
    · have z : lg_cmp (lo_it5 τ q i k).2 (0 : Int64) = 0 := by
        rw [lg_eq0]
        refine pv_inj ?_
        rw [i2, show c - k = 0 by omega]; rfl
      rw [if_pos z]
      refine ⟨?_, ?_⟩
      · show (lo_it5 τ q i k).1 = _
        rw [i1]
        congr 1
        split <;> split <;> omega
      · show pv (lo_it5 τ q i k).2 = _
        rw [i2]
        congr 1
        omega
theorem sh_ok : ∀ c, c < 7 → ∀ i, i < 7 → i < c → (((8 : Int32) * ((nI c - (1 : Int32)) - nI i)).toInt64.toUInt64 &&& Int64.toUInt64 63).toBitVec.toNat % 64 = 8 * (c - 1 - i) := by decide +kernel
theorem eq_nameLetter (nm : NM ν (μ 1) (ndn τ)) {k : Nat} {i : Int32} (hk : k < ndn τ) : fx_nameLetter_r τ ν k i = mf_nameLetter_r μ k i := by
  obtain ⟨c, c1, c6, x3, x4, x5⟩ := nm.1 k hk
  have L := (lo_k (τ := τ) (i := i) c6 x4 x5 6).1
  have e6 : (if 6 ≤ c then 6 else c) = c := by split <;> omega
  rw [e6] at L
  unfold fx_nameLetter_r lo_r mf_nameLetter_r
  rw [sl_eq 6, L, x3]
  have mi : m_in_r (pr_up μ 0 6 (0 : Int32)) (i.toInt64) (0 : Int64) ((nI c - (1 : Int32)).toInt64) = (if i < 0 then (0 : Int32) else if nI c ≤ i then 0 else 1) := by
    unfold m_in_r
    have nc : (nI c - 1).toInt = (c : Int) - 1 := nI_m1 (by omega)
    have a1 : lg_cmp i.toInt64 0 < 0 ↔ i < 0 := by
      rw [lg_lt0, Int64.lt_iff_toInt_lt, Int32.toInt_toInt64, lt_i]; rfl
    have a2 : 0 < lg_cmp i.toInt64 (nI c - 1).toInt64 ↔ nI c ≤ i := by
      rw [lg_gt0, Int64.lt_iff_toInt_lt, Int32.toInt_toInt64, Int32.toInt_toInt64, le_i, nc, nI_toI (by omega)]
      omega
    by_cases q1 : i < 0
    · rw [if_pos q1, if_pos (a1.mpr q1)]
    · rw [if_neg q1, if_neg (fun z => q1 (a1.mp z))]
      by_cases q2 : nI c ≤ i
      · rw [if_pos q2, if_pos (a2.mpr q2)]
      · rw [if_neg q2, if_neg (fun z => q2 (a2.mp z))]
  rw [mi]
  by_cases q1 : i < 0
  · rw [if_pos q1, if_pos rfl, if_pos rfl]
  rw [if_neg q1]
  by_cases q2 : nI c ≤ i
  · rw [if_pos q2, if_pos rfl, if_pos rfl]
  rw [if_neg q2, if_neg (by decide), if_neg (by decide)]
  have p0 : 0 ≤ i.toInt := by have w : ¬ i.toInt < (0 : Int32).toInt := fun z => q1 (lt_i.mpr z); exact Int.not_lt.mp w
  have p1 : i.toInt < c := by
    have w : ¬ (nI c).toInt ≤ i.toInt := fun z => q2 (le_i.mpr z)
    rw [nI_toI (by omega)] at w
    omega
  obtain ⟨j, hj, rfl⟩ : ∃ j, j < c ∧ i = nI j := ⟨i.toInt.toNat, by omega, Int32.toInt_inj.mp (by rw [nI_toI (by omega)]; omega)⟩
  rw [nI_clamp (by omega)]
  refine Int32.toInt_inj.mp ?_
  rw [a_B]
  show ((pv _ % 256 : Nat) : Int) = _
  rw [pv_ush (sh_ok c (by omega) j (by omega) hj), x5, (pk_pv c c6 x4).1, Nat.pow_mul]
  show ((pkn _ c / 256 ^ (c - 1 - j) % 256 : Nat) : Int) = _
  rw [pkn_div (c - 1 - j) c x4 (by omega), show c - (c - 1 - j) = j + 1 by omega, pkn_mod (x4.mono (by omega))]
  have := x4 j hj
  show (((μ 1 (12 + 7 * k + 1 + j)).toInt.toNat : Nat) : Int) = (μ 1 (12 + 7 * k + 1 + j)).toInt
  have t0 : 1 ≤ (μ 1 (12 + 7 * k + 1 + j)).toInt := this.1
  omega
end NME
