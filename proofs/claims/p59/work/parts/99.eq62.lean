/-! READING ON THE CLASS' SIDE, in words of the text b -/
/-- the class' bytes and the reference's -/
def TB (a b : Nat → Int32) (n : Nat) : Prop := ∀ k, k < n → 1 ≤ (b k).toInt ∧ (b k).toInt ≤ 255 ∧ (a k).toInt = (if (b k).toInt < 128 then (b k).toInt else (b k).toInt - 256)
theorem TB.eq {a b : Nat → Int32} {n k : Nat} (h : TB a b n) (hk : k < n) {x : Int32} (h0 : 0 ≤ x.toInt) (h1 : x.toInt ≤ 127) : a k = x ↔ b k = x := by
  obtain ⟨t1, t2, t3⟩ := h k hk
  constructor
  · intro e
    rw [e] at t3
    exact Int32.toInt_inj.mp (by split at t3 <;> omega)
  · intro e
    rw [e] at t3
    exact Int32.toInt_inj.mp (by rw [if_pos (by omega)] at t3; omega)
theorem TB.rng {a b : Nat → Int32} {n k : Nat} (h : TB a b n) (hk : k < n) {x y : Int32} (h0 : 0 ≤ x.toInt) (h1 : y.toInt ≤ 127) : ((x ≤ a k ∧ a k ≤ y) ↔ (x ≤ b k ∧ b k ≤ y)) ∧ ((x ≤ b k ∧ b k ≤ y) → a k = b k) := by
  obtain ⟨t1, t2, t3⟩ := h k hk
  rw [le_i, le_i, le_i, le_i]
  refine ⟨⟨fun q => ?_, fun q => ?_⟩, fun q => Int32.toInt_inj.mp ?_⟩
  · split at t3 <;> omega
  · rw [if_pos (by omega)] at t3; omega
  · rw [if_pos (by omega)] at t3; exact t3
/-- a reader at p -/
def IS (φ : pr_I) (b : Nat → Int32) (n p : Nat) : Prop := φ 0 3 = nI n ∧ φ 0 4 = nI p ∧ p ≤ n ∧ n ≤ 700 ∧ TB (φ 1) b n
theorem up_self {I : pr_I} {a k : Nat} {v : Int32} (h : I a k = v) : pr_up I a k v = I := by
  funext x y
  unfold pr_up
  by_cases c : x = a ∧ y = k
  · rw [if_pos c, c.1, c.2, h]
  · rw [if_neg c]
section RD
variable {φ : pr_I} {b : Nat → Int32} {n p : Nat}
theorem IS.at (h : IS φ b n p) {q : Nat} (hq : q ≤ n) : IS (pr_up φ 0 4 (nI q)) b n q := by
  refine ⟨by rw [pr_upk (by decide)]; exact h.1, pr_upe, hq, h.2.2.2.1, ?_⟩
  rw [pr_up_ne (by decide)]; exact h.2.2.2.2
theorem IS.wat (h : IS φ b n p) {v : Int32} : IS (pr_up φ 0 5 v) b n p := by
  refine ⟨by rw [pr_upk (by decide)]; exact h.1, by rw [pr_upk (by decide)]; exact h.2.1, h.2.2.1, h.2.2.2.1, ?_⟩
  rw [pr_up_ne (by decide)]; exact h.2.2.2.2
/-! spaces -/
noncomputable def skF (φ ψ : pr_I) : pr_I := if (ψ 0 3) ≤ (ψ 0 4) then ψ else (if (φ 1 ((ψ 0 4).toNatClampNeg)) = (32 : Int32) then (pr_up ψ 0 4 ((ψ 0 4) + (1 : Int32))) else ψ)
theorem sk_itF : ∀ k, in_sk_it2 φ k = itF (skF φ) k φ
  | 0 => rfl
  | k + 1 => by rw [in_sk_it2, sk_itF k]; rfl
theorem sk_go : ∀ (m p K : Nat) (ψ : pr_I), n - p = m → m ≤ K → IS ψ b n p → φ 1 = ψ 1 → itF (skF φ) K ψ = pr_up ψ 0 4 (nI (sk b n p))
  | 0, p, K, ψ, hm, _, h, _ => by
    obtain ⟨h1, h2, h3, h4, h5⟩ := h
    rw [sk_stop (fun z => by omega), up_self h2]
    refine itF_fix ?_ _
    unfold skF
    rw [h1, h2, if_pos ((nI_leI (by omega) (by omega)).mpr (by omega))]
  | m + 1, p, K, ψ, hm, hK, h, e1 => by
    obtain ⟨K, rfl⟩ : ∃ i, K = i + 1 := ⟨K - 1, by omega⟩
    have h' := h
    obtain ⟨h1, h2, h3, h4, h5⟩ := h
    have hlt : p < n := by omega
    have le0 : ¬ nI n ≤ nI p := fun z => by have := (nI_leI (by omega) (by omega)).mp z; omega
    have eqv : φ 1 p = 32 ↔ b p = 32 := by rw [e1]; exact h5.eq hlt (by decide) (by decide)
    by_cases c : b p = 32
    · have st : skF φ ψ = pr_up ψ 0 4 (nI (p + 1)) := by
        unfold skF
        rw [h1, h2, if_neg le0, nI_clamp (by omega), if_pos (eqv.mpr c), nI_1]
      rw [itF_s, st, sk_go m (p + 1) K (pr_up ψ 0 4 (nI (p + 1))) (by omega) (by omega) (h'.at (by omega)) (by rw [pr_up_ne (by decide)]; exact e1), pr_up_two, sk_step hlt c]
    · rw [sk_stop (fun z => c z.2), up_self h2]
      refine itF_fix ?_ _
      unfold skF
      rw [h1, h2, if_neg le0, nI_clamp (by omega), if_neg (fun z => c (eqv.mp z))]
theorem IS.skp (h : IS φ b n p) : in_sk φ = pr_up φ 0 4 (nI (sk b n p)) ∧ p ≤ sk b n p ∧ sk b n p ≤ n := by
  refine ⟨?_, sk_le h.2.2.1⟩
  unfold in_sk
  rw [sl_eq 700, sk_itF]
  exact sk_go (n - p) p 700 φ rfl (by have := h.2.2.2.1; omega) h rfl
/-! letters and digits -/
theorem IS.nb (h : IS φ b n p) {x y : Int32} (h0 : 0 ≤ x.toInt) (h1 : y.toInt ≤ 127) : in_nb_r φ x y = 0 ↔ ¬ (p < n ∧ x ≤ b p ∧ b p ≤ y) := by
  obtain ⟨a1, a2, a3, a4, a5⟩ := h
  unfold in_nb_r
  rw [a1, a2, nI_clamp (by omega)]
  by_cases c : p < n
  · have le0 : ¬ nI n ≤ nI p := fun z => by have := (nI_leI (by omega) (by omega)).mp z; omega
    have R := (a5.rng c h0 h1 (x := x) (y := y)).1
    rw [if_neg le0]
    by_cases c1 : φ 1 p < x
    · rw [if_pos c1]
      refine ⟨fun _ z => ?_, fun _ => rfl⟩
      have := le_i.mp (R.mpr z.2).1
      have := lt_i.mp c1
      omega
    · rw [if_neg c1]
      have c1' : x ≤ φ 1 p := le_i.mpr (by have q : ¬ (φ 1 p).toInt < x.toInt := fun z => c1 (lt_i.mpr z); omega)
      by_cases c2 : y < φ 1 p
      · rw [if_pos c2]
        refine ⟨fun _ z => ?_, fun _ => rfl⟩
        have := le_i.mp (R.mpr z.2).2
        have := lt_i.mp c2
        omega
      · rw [if_neg c2]
        have c2' : φ 1 p ≤ y := le_i.mpr (by have q : ¬ y.toInt < (φ 1 p).toInt := fun z => c2 (lt_i.mpr z); omega)
        exact ⟨fun z => absurd z (by decide), fun z => absurd ⟨c, R.mp ⟨c1', c2'⟩⟩ z⟩
  · have le0 : nI n ≤ nI p := (nI_leI (by omega) (by omega)).mpr (by omega)
    rw [if_pos le0]
    exact ⟨fun _ z => c z.1, fun _ => rfl⟩
theorem we_in : ∀ (m p : Nat), n - p = m → ∀ i, p ≤ i → i < we b n p → isl b n i
  | 0, p, hm, i, h1, h2 => by
    rw [we_stop (fun z => by have := z.1; omega)] at h2
    omega
  | m + 1, p, hm, i, h1, h2 => by
    by_cases c : isl b n p
    · by_cases e : i = p
      · rw [e]; exact c
      · rw [we_step c] at h2
        exact we_in m (p + 1) (by omega) i (by omega) h2
    · rw [we_stop c] at h2; omega
theorem we_out : ∀ (m p : Nat), n - p = m → ¬ isl b n (we b n p)
  | 0, p, hm => by
    have c : ¬ isl b n p := fun z => by have := z.1; omega
    rw [we_stop c]; exact c
  | m + 1, p, hm => by
    by_cases c : isl b n p
    · rw [we_step c]; exact we_out m (p + 1) (by omega)
    · rw [we_stop c]; exact c
/-! words -/
/-- a word of c letters at q as a number: none that is too long -/
noncomputable def wd (b : Nat → Int32) (q c : Nat) : Int64 := if c ≤ 6 then pkf (fun i => b (q + i)) c else 0
/-- the reader behind the word at q -/
def rdW (φ : pr_I) (q e : Nat) : pr_I := pr_up (pr_up (pr_up φ 0 4 (nI q)) 0 5 (nI q)) 0 4 (nI e)
theorem rw_s {k : Nat} : in_rw_it16 φ (k + 1) = (if (in_nb_r (in_rw_it16 φ k).1 (97 : Int32) (122 : Int32)) = 0 then ((in_rw_it16 φ k).1, ((in_rw_it16 φ k).2)) else ((pr_up (in_rw_it16 φ k).1 0 4 (((in_rw_it16 φ k).1 0 4) + (1 : Int32))), (if (6 : Int32) ≤ (nI k) then (0 : Int64) else ((((in_rw_it16 φ k).2) <<< (((8 : Int32)).toInt64 &&& 63)) ||| ((φ 1 (((in_rw_it16 φ k).1 0 4).toNatClampNeg))).toInt64)))) := by
  rw [in_rw_it16]
theorem IS.rdS (h : IS φ b n p) {q e : Nat} (hq : q ≤ n) (he : e ≤ n) : IS (rdW φ q e) b n e := ((h.at hq).wat).at he
theorem IS.it16 (h : IS φ b n p) : ∀ k, k ≤ 700 → in_rw_it16 φ k = (rdW φ (sk b n p) (sk b n p + (if k ≤ we b n (sk b n p) - sk b n p then k else we b n (sk b n p) - sk b n p)), wd b (sk b n p) (if k ≤ we b n (sk b n p) - sk b n p then k else we b n (sk b n p) - sk b n p))
  | 0, _ => by
    obtain ⟨e, s1, s2⟩ := h.skp
    rw [if_pos (Nat.zero_le _), Nat.add_zero]
    show (pr_up (in_sk φ) 0 5 ((in_sk φ) 0 4), (0 : Int64)) = _
    rw [e, pr_upe]
    unfold rdW wd
    rw [if_pos (by decide), up_self (I := pr_up (pr_up φ 0 4 (nI (sk b n p))) 0 5 (nI (sk b n p))) (by rw [pr_upk (by decide), pr_upe])]
    rfl
  | k + 1, hk => by
    obtain ⟨e, s1, s2⟩ := h.skp
    have ih := h.it16 k (by omega)
    obtain ⟨w1, w2⟩ := we_le (b := b) s2
    have n7 := h.2.2.2.1
    rw [rw_s, ih]
    generalize hq : sk b n p = q at *
    generalize hE : we b n q = E at *
    dsimp only
    by_cases c : k < E - q
    · rw [if_pos (show k ≤ E - q by omega), if_pos (show k + 1 ≤ E - q by omega)]
      have L : isl b n (q + k) := we_in (n - q) q rfl (q + k) (by omega) (by omega)
      have I := h.rdS s2 (show q + k ≤ n by omega)
      have nb : ¬ in_nb_r (rdW φ q (q + k)) 97 122 = 0 := fun z => ((I.nb (x := 97) (y := 122) (by decide) (by decide)).mp z) L
      have a4 : rdW φ q (q + k) 0 4 = nI (q + k) := pr_upe
      have a1 : φ 1 (q + k) = b (q + k) := (h.2.2.2.2.rng L.1 (x := 97) (y := 122) (by decide) (by decide)).2 L.2
      rw [if_neg nb, a4, nI_clamp (by omega), a1, nI_1]
      refine Prod.ext ?_ ?_
      · show pr_up (rdW φ q (q + k)) 0 4 (nI (q + k + 1)) = rdW φ q (q + (k + 1))
        unfold rdW
        rw [pr_up_two]; rfl
      · show (if (6 : Int32) ≤ nI k then (0 : Int64) else (wd b q k <<< ((8 : Int32).toInt64 &&& 63)) ||| (b (q + k)).toInt64) = wd b q (k + 1)
        unfold wd
        by_cases c6 : 6 ≤ k
        · rw [if_pos (show (6 : Int32) ≤ nI k from (nI_leI (a := 6) (by decide) (by omega)).mpr c6), if_neg (show ¬ k + 1 ≤ 6 by omega)]
        · rw [if_neg (show ¬ (6 : Int32) ≤ nI k from fun z => c6 ((nI_leI (a := 6) (by decide) (by omega)).mp z)), if_pos (show k + 1 ≤ 6 by omega), if_pos (show k ≤ 6 by omega), pkf]
    · have ek : (if k ≤ E - q then k else E - q) = E - q := by split <;> omega
      have ek1 : (if k + 1 ≤ E - q then k + 1 else E - q) = E - q := by split <;> omega
      have I := h.rdS s2 (show E ≤ n by omega)
      have nb : in_nb_r (rdW φ q E) 97 122 = 0 := (I.nb (x := 97) (y := 122) (by decide) (by decide)).mpr (by rw [← hE]; exact we_out (n - q) q rfl)
      rw [ek, ek1, show q + (E - q) = E by omega, if_pos nb]
/-- a word read -/
theorem IS.rdw (h : IS φ b n p) : in_rw_r φ = wd b (sk b n p) (we b n (sk b n p) - sk b n p) ∧ in_rw φ = (if we b n (sk b n p) = sk b n p then in_fail (rdW φ (sk b n p) (we b n (sk b n p))) 1 (nI (sk b n p)) else rdW φ (sk b n p) (we b n (sk b n p))) := by
  obtain ⟨e, s1, s2⟩ := h.skp
  obtain ⟨w1, w2⟩ := we_le (b := b) s2
  have n7 := h.2.2.2.1
  have A := h.it16 700 (Nat.le_refl _)
  have ek : (if 700 ≤ we b n (sk b n p) - sk b n p then 700 else we b n (sk b n p) - sk b n p) = we b n (sk b n p) - sk b n p := by split <;> omega
  rw [ek, show sk b n p + (we b n (sk b n p) - sk b n p) = we b n (sk b n p) by omega] at A
  have a4 : rdW φ (sk b n p) (we b n (sk b n p)) 0 4 = nI (we b n (sk b n p)) := pr_upe
  have a5 : rdW φ (sk b n p) (we b n (sk b n p)) 0 5 = nI (sk b n p) := by unfold rdW; rw [pr_upk (by decide), pr_upe]
  unfold in_rw_r in_rw
  rw [sl_eq 700, A]
  refine ⟨ite_self _, ?_⟩
  show (if rdW φ (sk b n p) (we b n (sk b n p)) 0 4 = rdW φ (sk b n p) (we b n (sk b n p)) 0 5 then in_fail (rdW φ (sk b n p) (we b n (sk b n p))) 1 (rdW φ (sk b n p) (we b n (sk b n p)) 0 4) else rdW φ (sk b n p) (we b n (sk b n p))) = _
  rw [a4, a5]
  by_cases c : we b n (sk b n p) = sk b n p
  · rw [if_pos c, if_pos (by rw [c]), c]
  · rw [if_neg c, if_neg (fun z => c ((nI_eq (by omega) (by omega)).mp z))]
/-! numbers -/
noncomputable def rnF (φ : pr_I) (P : pr_I × Int32) : pr_I × Int32 := if (in_nb_r P.1 (48 : Int32) (57 : Int32)) = 0 then P else ((pr_up P.1 0 4 ((P.1 0 4) + (1 : Int32))), (if (1000000 : Int32) < (((P.2 * (10 : Int32)) + (φ 1 ((P.1 0 4).toNatClampNeg))) - (48 : Int32)) then (1000000 : Int32) else (((P.2 * (10 : Int32)) + (φ 1 ((P.1 0 4).toNatClampNeg))) - (48 : Int32))))
theorem rn_itF {x y : Int32} : ∀ k, in_rn_it15 φ x y k = itF (rnF φ) k (in_sk φ, 0)
  | 0 => rfl
  | k + 1 => by rw [in_rn_it15, rn_itF k]; rfl
theorem rn_go : ∀ (m p K : Nat) (ψ : pr_I) (v : Int32) (V : Int64), n - p = m → m ≤ K → IS ψ b n p → φ 1 = ψ 1 → V.toInt = v.toInt → 0 ≤ v.toInt → v.toInt ≤ 1000000 → itF (rnF φ) K (ψ, v) = (pr_up ψ 0 4 (nI (nu b n p V).1), (nu b n p V).2.toInt32) ∧ 0 ≤ (nu b n p V).2.toInt ∧ (nu b n p V).2.toInt ≤ 1000000
  | m, p, K, ψ, v, V, hm, hK, h, e1, eV, v0, v1 => by
    obtain ⟨h1, h2, h3, h4, h5⟩ := h
    have NB := IS.nb (φ := ψ) (b := b) (n := n) (p := p) ⟨h1, h2, h3, h4, h5⟩ (x := 48) (y := 57) (by decide) (by decide)
    by_cases c : isd b n p
    · have hlt := c.1
      match m, hm with
      | 0, hm => omega
      | m + 1, hm =>
        obtain ⟨K, rfl⟩ : ∃ i, K = i + 1 := ⟨K - 1, by omega⟩
        obtain ⟨t1, t2, t3⟩ := h5 p hlt
        have a1 : φ 1 p = b p := by rw [e1]; exact (h5.rng hlt (x := 48) (y := 57) (by decide) (by decide)).2 c.2
        have c1 := le_i.mp c.2.1
        have c2 := le_i.mp c.2.2
        have k48 : (48 : Int32).toInt = 48 := rfl
        have k57 : (57 : Int32).toInt = 57 := rfl
        have k10 : (10 : Int32).toInt = 10 := rfl
        have kM : (1000000 : Int32).toInt = 1000000 := rfl
        have l48 : (48 : Int64).toInt = 48 := rfl
        have l10 : (10 : Int64).toInt = 10 := rfl
        have lM : (1000000 : Int64).toInt = 1000000 := rfl
        have x1 : (v * 10).toInt = 10 * v.toInt := by rw [i_mul (by rw [k10]; omega) (by rw [k10]; omega), k10]; omega
        have x2 : (v * 10 + b p).toInt = 10 * v.toInt + (b p).toInt := by rw [i_add (by omega) (by omega), x1]
        have x3 : (v * 10 + b p - 48).toInt = 10 * v.toInt + (b p).toInt - 48 := by rw [i_sub (by omega) (by omega), x2, k48]
        have y1 : ((10 : Int64) * V).toInt = 10 * v.toInt := by rw [l_mul (by rw [l10]; omega) (by rw [l10]; omega), l10, eV]
        have y2 : ((10 : Int64) * V + (b p).toInt64).toInt = 10 * v.toInt + (b p).toInt := by
          rw [Int64.toInt_add, y1, Int32.toInt_toInt64]; exact bm64 (by omega) (by omega)
        have y3 : ((10 : Int64) * V + (b p).toInt64 - 48).toInt = 10 * v.toInt + (b p).toInt - 48 := by
          rw [Int64.toInt_sub, y2, l48]; exact bm64 (by omega) (by omega)
        have st : rnF φ (ψ, v) = (pr_up ψ 0 4 (nI (p + 1)), if (1000000 : Int32) < v * 10 + b p - 48 then (1000000 : Int32) else v * 10 + b p - 48) := by
          show (if in_nb_r ψ 48 57 = 0 then (ψ, v) else (pr_up ψ 0 4 (ψ 0 4 + 1), if (1000000 : Int32) < v * 10 + φ 1 (ψ 0 4).toNatClampNeg - 48 then (1000000 : Int32) else v * 10 + φ 1 (ψ 0 4).toNatClampNeg - 48)) = _
          rw [if_neg (fun z => (NB.mp z) c), h2, nI_clamp (by omega), a1, nI_1]
        rw [itF_s, st, nu_step c, show bt b n p = b p from if_pos hlt]
        have R := rn_go m (p + 1) K (pr_up ψ 0 4 (nI (p + 1))) (if (1000000 : Int32) < v * 10 + b p - 48 then (1000000 : Int32) else v * 10 + b p - 48) (if (10 : Int64) * V + (b p).toInt64 - 48 < 1000000 then (10 : Int64) * V + (b p).toInt64 - 48 else 1000000) (by omega) (by omega) (IS.at (φ := ψ) (p := p) ⟨h1, h2, h3, h4, h5⟩ (by omega)) (by rw [pr_up_ne (by decide)]; exact e1) ?_ ?_ ?_
        · rw [pr_up_two] at R
          exact R
        · by_cases q : (1000000 : Int32) < v * 10 + b p - 48
          · have q1 := lt_i.mp q
            rw [if_pos q, if_neg (fun z => by rw [Int64.lt_iff_toInt_lt, y3, lM] at z; omega), lM, kM]
          · have q1 : ¬ (1000000 : Int32).toInt < (v * 10 + b p - 48).toInt := fun z => q (lt_i.mpr z)
            rw [if_neg q]
            by_cases q2 : (10 : Int64) * V + (b p).toInt64 - 48 < 1000000
            · rw [if_pos q2, y3, x3]
            · rw [if_neg q2, lM, x3]
              rw [Int64.lt_iff_toInt_lt, y3, lM] at q2
              omega
        · by_cases q : (1000000 : Int32) < v * 10 + b p - 48
          · rw [if_pos q]; decide
          · rw [if_neg q, x3]; omega
        · by_cases q : (1000000 : Int32) < v * 10 + b p - 48
          · rw [if_pos q]; decide
          · have q1 : ¬ (1000000 : Int32).toInt < (v * 10 + b p - 48).toInt := fun z => q (lt_i.mpr z)
            rw [if_neg q]; omega
    · rw [nu_stop c]
      refine ⟨?_, by show 0 ≤ V.toInt; omega, by show V.toInt ≤ 1000000; omega⟩
      rw [itF_fix (by unfold rnF; exact if_pos (NB.mpr c)), up_self h2]
      refine Prod.ext rfl ?_
      show v = V.toInt32
      exact Int32.toInt_inj.mp (by rw [Int64.toInt_toInt32, eV]; exact (bm32 (by omega) (by omega)).symm)
/-- a number read -/
theorem IS.rdn (h : IS φ b n p) {x y : Int32} : in_rn_r φ x y = (nu b n (sk b n p) 0).2.toInt32 ∧ in_rn φ x y = (if (nu b n (sk b n p) 0).1 = sk b n p then in_fail (pr_up φ 0 4 (nI (nu b n (sk b n p) 0).1)) 1 (nI (sk b n p)) else (if (nu b n (sk b n p) 0).2.toInt32 < x then in_fail (pr_up φ 0 4 (nI (nu b n (sk b n p) 0).1)) 2 (nI (sk b n p)) else (if (nu b n (sk b n p) 0).2.toInt32 ≤ y then pr_up φ 0 4 (nI (nu b n (sk b n p) 0).1) else in_fail (pr_up φ 0 4 (nI (nu b n (sk b n p) 0).1)) 2 (nI (sk b n p))))) ∧ 0 ≤ (nu b n (sk b n p) 0).2.toInt ∧ (nu b n (sk b n p) 0).2.toInt ≤ 1000000 := by
  obtain ⟨e, s1, s2⟩ := h.skp
  have n7 := h.2.2.2.1
  obtain ⟨u1, u2⟩ := nu_le1 (b := b) (v := 0) s2
  have G := rn_go (φ := φ) (n - sk b n p) (sk b n p) 700 (in_sk φ) 0 0 rfl (by omega) (by rw [e]; exact h.at s2) (by rw [e, pr_up_ne (by decide)]) rfl (by decide) (by decide)
  obtain ⟨G1, G2, G3⟩ := G
  rw [← rn_itF (x := x) (y := y), e, pr_up_two] at G1
  have a4 : pr_up φ 0 4 (nI (nu b n (sk b n p) 0).1) 0 4 = nI (nu b n (sk b n p) 0).1 := pr_upe
  unfold in_rn_r in_rn
  rw [sl_eq 700, G1, e, pr_upe]
  refine ⟨(congrArg (fun z => (if pr_up φ 0 4 (nI (nu b n (sk b n p) 0).1) 0 4 = nI (sk b n p) then (nu b n (sk b n p) 0).2.toInt32 else z)) ((congrArg (fun z => (if (nu b n (sk b n p) 0).2.toInt32 < x then (nu b n (sk b n p) 0).2.toInt32 else z)) (ite_self _)).trans (ite_self _))).trans (ite_self _), ?_, G2, G3⟩
  show (if pr_up φ 0 4 (nI (nu b n (sk b n p) 0).1) 0 4 = nI (sk b n p) then in_fail (pr_up φ 0 4 (nI (nu b n (sk b n p) 0).1)) 1 (pr_up φ 0 4 (nI (nu b n (sk b n p) 0).1) 0 4) else (if (nu b n (sk b n p) 0).2.toInt32 < x then in_fail (pr_up φ 0 4 (nI (nu b n (sk b n p) 0).1)) 2 (nI (sk b n p)) else (if (nu b n (sk b n p) 0).2.toInt32 ≤ y then pr_up φ 0 4 (nI (nu b n (sk b n p) 0).1) else in_fail (pr_up φ 0 4 (nI (nu b n (sk b n p) 0).1)) 2 (nI (sk b n p))))) = _
  rw [a4]
  by_cases c : (nu b n (sk b n p) 0).1 = sk b n p
  · rw [if_pos c, if_pos (by rw [c]), c]
  · rw [if_neg c, if_neg (fun z => c ((nI_eq (by omega) (by omega)).mp z))]
end RD
