/-! STATEMENTS ON BOTH SIDES: a node, any statement -/
theorem nmd_m1 {r b : Nat → Int32} {f c : Nat} : ∀ m, m ≤ 12 → nmd r b f c m = -1 → ∀ i, i < m → inm r b i f c = 0
  | 0, _, _, i, hi => absurd hi (by omega)
  | m + 1, h12, h, i, hi => by
    rw [nmd] at h
    by_cases e : inm r b m f c = 0
    · rw [if_pos e] at h
      by_cases z : i = m
      · rw [z]; exact e
      · exact nmd_m1 m (by omega) h i (by omega)
    · rw [if_neg e] at h
      exact absurd h (nI_m1n (by omega))
section NOP
variable {φ X τ : pr_I} {ν : Nat → Int64} {b : Nat → Int32} {n e q fn fl : Nat}
theorem it91_3 {j : Nat} : ∀ k, (m_rn_it91 X n q fn k) 3 j = if 12 + 7 * fn + 1 ≤ j ∧ j < 12 + 7 * fn + 1 + k then X 7 ((sk (X 7) n (we (X 7) n q)) + (j - (12 + 7 * fn + 1))) else if j = 12 + 7 * fn then nI ((we (X 7) n (sk (X 7) n (we (X 7) n q))) - (sk (X 7) n (we (X 7) n q))) else X 3 j
  | 0 => by
    rw [if_neg (by omega), m_rn_it91, u33, u03, u03, u03]
  | k + 1 => by
    rw [m_rn_it91, u33, it91_3 k]
    by_cases c : j = 12 + 7 * fn + 1 + k
    · rw [if_pos c, if_pos (by omega)]
      congr 1
      omega
    · rw [if_neg c]
      by_cases d : 12 + 7 * fn + 1 ≤ j ∧ j < 12 + 7 * fn + 1 + k
      · rw [if_pos d, if_pos (by omega)]
      · rw [if_neg d, if_neg (show ¬ (12 + 7 * fn + 1 ≤ j ∧ j < 12 + 7 * fn + 1 + (k + 1)) by omega)]
noncomputable def NOf (φ τ : pr_I) (ν : Nat → Int64) : pr_I := if lg_cmp (in_rw_r φ) (0 : Int64) = 0 then in_fail (in_rw φ) (3 : Int32) ((in_rw φ) 0 5) else if w_nw_r τ ν (ndn τ) (in_rw_r φ) = ((-1) : Int32) then in_rw φ else in_fail (in_rw φ) (3 : Int32) ((in_rw φ) 0 5)
theorem no_eq {p : Int32} : in_no φ τ ν p = if nI (ndn τ) < nI 12 then NOf φ τ ν else in_fail φ (4 : Int32) p := by
  unfold in_no NOf
  rw [ite_self, ite_self]
theorem now_eq {p : Int32} : in_no_w τ φ ν p = if nI (ndn τ) < nI 12 then (if (NOf φ τ ν) 0 0 = 0 then w_an τ (ndn τ) (in_rw_r φ) else τ) else τ := by
  unfold in_no_w NOf
  by_cases c : lg_cmp (in_rw_r φ) (0 : Int64) = 0
  · rw [if_pos c, if_pos c]
  · rw [if_neg c, if_neg c]
    by_cases d : w_nw_r τ ν (ndn τ) (in_rw_r φ) = ((-1) : Int32)
    · rw [if_pos d, if_pos d]
    · rw [if_neg d, if_neg d]
theorem nonu_eq {p : Int32} : in_no_nu φ τ ν p = if nI (ndn τ) < nI 12 then (if (NOf φ τ ν) 0 0 = 0 then nm_an ν (ndn τ) (in_rw_r φ) else ν) else ν := by
  unfold in_no_nu NOf
  by_cases c : lg_cmp (in_rw_r φ) (0 : Int64) = 0
  · rw [if_pos c, if_pos c]
  · rw [if_neg c, if_neg c]
    by_cases d : w_nw_r τ ν (ndn τ) (in_rw_r φ) = ((-1) : Int32)
    · rw [if_pos d, if_pos d]
    · rw [if_neg d, if_neg d]
theorem no_pair (h : IS φ b n e) (h0 : φ 0 0 = 0) (he : we b n q = e) (h7 : X 7 = b) (h12 : X 0 12 = 0) (ld : LD τ ν (X 3) fn fl) :
    (¬ m_rn_r X n q fn = 0 ∧ GD (in_no φ τ ν (nI q)) (m_rn X n q fn) (in_no_w τ φ ν (nI q)) (in_no_nu φ τ ν (nI q)) b n)
    ∨ (m_rn_r X n q fn = 0 ∧ BD (in_no φ τ ν (nI q)) (m_rn X n q fn)) := by
  subst h7
  subst he
  have f12 := ld.1.1.2.2
  have n7 := h.2.2.2.1
  rw [no_eq, now_eq, nonu_eq, ld.nn]
  unfold m_rn_r m_rn
  by_cases c : fn = 12
  · subst c
    rw [if_pos rfl, if_pos rfl, if_neg (by decide)]
    exact Or.inr ⟨rfl, (SK.of h0 (by decide)).bd (by rw [pr_upk (by decide), pr_upe]) pr_upe⟩
  have c1 : ¬ nI fn = nI 12 := fun z => c ((nI_eq (by omega) (by omega)).mp z)
  have c2 : nI fn < nI 12 := lt_i.mpr (by rw [nI_toI (by omega), nI_toI (by omega)]; omega)
  rw [if_neg c1, if_neg c1, if_pos c2, if_pos c2, if_pos c2]
  obtain ⟨_, sa, sb⟩ := h.skp
  obtain ⟨wa, wb⟩ := we_le (b := X 7) sb
  obtain ⟨R1, R2⟩ := h.rdw
  have I1 := h.rdS sb wb
  have Z1 : rdW φ (sk (X 7) n (we (X 7) n q)) (we (X 7) n (sk (X 7) n (we (X 7) n q))) 0 0 = 0 := rdW_e.1.trans h0
  by_cases d : we (X 7) n (sk (X 7) n (we (X 7) n q)) = sk (X 7) n (we (X 7) n q)
  · have d1 : nI ((we (X 7) n (sk (X 7) n (we (X 7) n q))) - (sk (X 7) n (we (X 7) n q))) = 0 := by rw [d, Nat.sub_self]; rfl
    rw [if_pos d] at R2
    rw [if_pos d1, if_pos d1]
    have S : SK (in_rw φ) 1 (nI (sk (X 7) n (we (X 7) n q))) := by rw [R2]; exact SK.of Z1 (by decide)
    have eN : NOf φ τ ν = in_rw φ := by unfold NOf; rw [S.err, ite_self, ite_self]
    rw [eN]
    exact Or.inr ⟨rfl, S.bd (by rw [pr_upk (by decide), pr_upe]) pr_upe⟩
  · have d1 : ¬ nI ((we (X 7) n (sk (X 7) n (we (X 7) n q))) - (sk (X 7) n (we (X 7) n q))) = 0 := fun z => by
      have := (nI_eq (a := (we (X 7) n (sk (X 7) n (we (X 7) n q))) - (sk (X 7) n (we (X 7) n q))) (b := 0) (by omega) (by omega)).mp z
      omega
    rw [if_neg d] at R2
    rw [if_neg d1, if_neg d1]
    have S : SK (in_fail (in_rw φ) (3 : Int32) ((in_rw φ) 0 5)) 3 (nI (sk (X 7) n (we (X 7) n q))) := by
      rw [R2, rdW_e.2.2]; exact SK.of Z1 (by decide)
    by_cases g : 6 < (we (X 7) n (sk (X 7) n (we (X 7) n q))) - (sk (X 7) n (we (X 7) n q))
    · have g1 : nI 6 < nI ((we (X 7) n (sk (X 7) n (we (X 7) n q))) - (sk (X 7) n (we (X 7) n q))) := lt_i.mpr (by rw [nI_toI (by omega), nI_toI (by omega)]; omega)
      rw [if_pos g1, if_pos g1]
      have eN : NOf φ τ ν = in_fail (in_rw φ) (3 : Int32) ((in_rw φ) 0 5) := by
        unfold NOf
        rw [if_pos (by rw [R1]; unfold wd; rw [if_neg (by omega)]; exact lg_eq0.mpr rfl)]
      rw [eN]
      exact Or.inr ⟨rfl, S.bd (by rw [pr_upk (by decide), pr_upe]) pr_upe⟩
    · have g1 : ¬ nI 6 < nI ((we (X 7) n (sk (X 7) n (we (X 7) n q))) - (sk (X 7) n (we (X 7) n q))) := fun z => by
        have := lt_i.mp z
        rw [nI_toI (by omega), nI_toI (by omega)] at this
        omega
      rw [if_neg g1, if_neg g1]
      have L := ld.2.2.2.2.look (σ := τ) (b := X 7) (f := sk (X 7) n (we (X 7) n q)) (c := (we (X 7) n (sk (X 7) n (we (X 7) n q))) - (sk (X 7) n (we (X 7) n q))) f12 we_lt8 (by omega)
      have nz : ¬ lg_cmp (in_rw_r φ) (0 : Int64) = 0 := by
        rw [R1, lg_eq0]; unfold wd; rw [if_pos (by omega)]
        exact pkf_ne (by omega) (by omega) we_lt8
      by_cases f : nmd (X 3) (X 7) (sk (X 7) n (we (X 7) n q)) ((we (X 7) n (sk (X 7) n (we (X 7) n q))) - (sk (X 7) n (we (X 7) n q))) fn = ((-1) : Int32)
      · rw [if_pos f, if_pos f]
        have eN : NOf φ τ ν = rdW φ (sk (X 7) n (we (X 7) n q)) (we (X 7) n (sk (X 7) n (we (X 7) n q))) := by
          unfold NOf
          rw [if_neg nz, if_pos (by rw [R1, ld.nn, L.1]; exact f), R2]
        have n12 : ¬ nI 12 ≤ nI fn := fun z => by have := (nI_leI (by omega) (by omega)).mp z; omega
        have f0 := fun o (ho : o ≠ 3) => fr_m_rn_it91 (σ := X) (n := n) (q := q) (fn := fn) (o := o) (by simpa using ho) (k := (we (X 7) n (sk (X 7) n (we (X 7) n q))) - (sk (X 7) n (we (X 7) n q)))
        rw [eN, if_pos Z1, if_pos Z1, R1]
        refine Or.inl ⟨by decide, we (X 7) n (sk (X 7) n (we (X 7) n q)), fn + 1, fl, I1, Z1, ?_, pr_upe, ?_, ?_⟩
        · rw [u07, u37, f0 7 (by decide), u37, u07, u07, u07]
        · rw [u912, u30, f0 0 (by decide), u30, u1012, u912, u912]; exact h12
        · unfold w_an nm_an
          rw [if_neg n12, if_neg n12]
          refine ld.node (by omega) (by omega) (by omega) we_lt8 (fun k hk z => ?_) (fun j => ?_)
          · exact ((ld.2.2.2.2.is (b := X 7) hk we_lt8 (by omega)).mp z) (nmd_m1 fn f12 f k hk)
          · rw [u03, u33, it91_3]
            by_cases a1 : j = 6
            · rw [if_pos a1, if_pos a1]
            · rw [if_neg a1, if_neg a1]
              by_cases a2 : j = 12 + 7 * fn
              · rw [if_pos a2, if_neg (by omega), if_pos a2]
              · rw [if_neg a2, if_neg a2]
      · rw [if_neg f, if_neg f]
        have eN : NOf φ τ ν = in_fail (in_rw φ) (3 : Int32) ((in_rw φ) 0 5) := by
          unfold NOf
          rw [if_neg nz, if_neg (by rw [R1, ld.nn, L.1]; exact f)]
        rw [eN]
        exact Or.inr ⟨rfl, S.bd (by rw [pr_upk (by decide), pr_upe]) pr_upe⟩
/-! any statement -/
theorem iw_e {k : Nat} (hn : n ≤ 700) (hq : q ≤ n) (hk : k < 7) (e : we b n q = q) : iw b n q k = 0 := by
  have p1 : 1 ≤ pr_slen.getD k 0 ∧ pr_slen.getD k 0 ≤ 8 := (show ∀ k, k < 7 → 1 ≤ pr_slen.getD k 0 ∧ pr_slen.getD k 0 ≤ 8 by decide) k hk
  rw [iw_0 hn hq, e, Nat.sub_self]
  intro z
  have := (nI_eq (a := 0) (b := pr_slen.getD k 0) (by omega) (by omega)).mp z.1
  omega
theorem st_pair {σ : pr_I} {p : Nat} (h : IS φ b n p) (h0 : φ 0 0 = 0) (h7 : σ 7 = b) (h12 : σ 0 12 = 0) (ld : LD τ ν (σ 3) fn fl) :
    (¬ m_rs_r σ n p fn fl = 0 ∧ GD (in_st φ τ ν) (m_rs σ n p fn fl) (in_st_w τ φ ν) (in_st_nu φ τ ν) b n)
    ∨ (m_rs_r σ n p fn fl = 0 ∧ BD (in_st φ τ ν) (m_rs σ n p fn fl)) := by
  subst h7
  have n7 := h.2.2.2.1
  obtain ⟨_, sa, sb⟩ := h.skp
  obtain ⟨wa, wb⟩ := we_le (b := σ 7) sb
  obtain ⟨R1, R2⟩ := h.rdw
  have I1 := h.rdS sb wb
  have Z1 : rdW φ (sk (σ 7) n p) (we (σ 7) n (sk (σ 7) n p)) 0 0 = 0 := rdW_e.1.trans h0
  unfold m_rs_r m_rs
  by_cases d : we (σ 7) n (sk (σ 7) n p) = sk (σ 7) n p
  · rw [if_pos d] at R2
    have S : SK (in_rw φ) 1 (nI (sk (σ 7) n p)) := by rw [R2]; exact SK.of Z1 (by decide)
    have e0 : ¬ (in_rw φ) 0 0 = 0 := by rw [S.1]; decide
    unfold in_st
    rw [if_neg e0]
    have w := fun k (hk : k < 7) => iw_e (b := σ 7) n7 sb hk d
    rw [if_pos (w 0 (by decide)), if_pos (w 1 (by decide)), if_pos (w 2 (by decide)), if_pos (w 3 (by decide)), if_pos (w 4 (by decide)), if_pos (w 5 (by decide)), if_pos (w 6 (by decide)), if_pos (w 0 (by decide)), if_pos (w 1 (by decide)), if_pos (w 2 (by decide)), if_pos (w 3 (by decide)), if_pos (w 4 (by decide)), if_pos (w 5 (by decide)), if_pos (w 6 (by decide))]
    exact Or.inr ⟨rfl, S.bd (by rw [pr_upk (by decide), pr_upe]) pr_upe⟩
  · rw [if_neg d] at R2
    have k := fun k (hk : k < 7) => kw_eq (b := σ 7) (k := k) n7 sb hk
    have x7 : (pr_up (pr_up σ 0 9 (nI (sk (σ 7) n p))) 0 10 (nI (sk (σ 7) n p))) 7 = σ 7 := u07.trans u07
    have x12 : (pr_up (pr_up σ 0 9 (nI (sk (σ 7) n p))) 0 10 (nI (sk (σ 7) n p))) 0 12 = 0 := u1012.trans (u912.trans h12)
    have x3 : LD τ ν ((pr_up (pr_up σ 0 9 (nI (sk (σ 7) n p))) 0 10 (nI (sk (σ 7) n p))) 3) fn fl := by rw [u03, u03]; exact ld
    have S := fun j (hj : j < 5) => set_pair (X := (pr_up (pr_up σ 0 9 (nI (sk (σ 7) n p))) 0 10 (nI (sk (σ 7) n p)))) I1 Z1 rfl x7 x12 x3 hj
    have A := no_pair (X := (pr_up (pr_up σ 0 9 (nI (sk (σ 7) n p))) 0 10 (nI (sk (σ 7) n p)))) I1 Z1 rfl x7 x12 x3
    have B := li_pair (X := (pr_up (pr_up σ 0 9 (nI (sk (σ 7) n p))) 0 10 (nI (sk (σ 7) n p)))) I1 Z1 rfl x7 x12 x3
    unfold in_st in_st_w in_st_nu in_so_r
    rw [R1, R2, if_pos Z1, if_pos Z1, if_pos Z1, rdW_e.2.2]
    by_cases c0 : iw (σ 7) n (sk (σ 7) n p) 0 = 0
    rotate_left
    · have g := (k 0 (by decide)).mpr c0
      rw [if_neg c0, if_neg c0, if_pos g, if_pos g, if_pos g]; exact A
    have g0 := fun z => (k 0 (by decide)).mp z c0
    rw [if_pos c0, if_pos c0, if_neg g0, if_neg g0, if_neg g0]
    by_cases c1 : iw (σ 7) n (sk (σ 7) n p) 1 = 0
    rotate_left
    · have g := (k 1 (by decide)).mpr c1
      rw [if_neg c1, if_neg c1, if_pos g, if_pos g, if_pos g]; exact B
    have g1 := fun z => (k 1 (by decide)).mp z c1
    rw [if_pos c1, if_pos c1, if_neg g1, if_neg g1, if_neg g1, ite_self]
    by_cases c2 : iw (σ 7) n (sk (σ 7) n p) 2 = 0
    rotate_left
    · have g := (k 2 (by decide)).mpr c2
      rw [if_neg c2, if_neg c2, if_pos g, if_neg (by decide), if_neg (by decide)]; exact S 0 (by decide)
    have g2 := fun z => (k 2 (by decide)).mp z c2
    rw [if_pos c2, if_pos c2, if_neg g2]
    by_cases c3 : iw (σ 7) n (sk (σ 7) n p) 3 = 0
    rotate_left
    · have g := (k 3 (by decide)).mpr c3
      rw [if_neg c3, if_neg c3, if_pos g, if_neg (by decide), if_neg (by decide)]; exact S 1 (by decide)
    have g3 := fun z => (k 3 (by decide)).mp z c3
    rw [if_pos c3, if_pos c3, if_neg g3]
    by_cases c4 : iw (σ 7) n (sk (σ 7) n p) 4 = 0
    rotate_left
    · have g := (k 4 (by decide)).mpr c4
      rw [if_neg c4, if_neg c4, if_pos g, if_neg (by decide), if_neg (by decide)]; exact S 2 (by decide)
    have g4 := fun z => (k 4 (by decide)).mp z c4
    rw [if_pos c4, if_pos c4, if_neg g4]
    by_cases c5 : iw (σ 7) n (sk (σ 7) n p) 5 = 0
    rotate_left
    · have g := (k 5 (by decide)).mpr c5
      rw [if_neg c5, if_neg c5, if_pos g, if_neg (by decide), if_neg (by decide)]; exact S 3 (by decide)
    have g5 := fun z => (k 5 (by decide)).mp z c5
    rw [if_pos c5, if_pos c5, if_neg g5]
    by_cases c6 : iw (σ 7) n (sk (σ 7) n p) 6 = 0
    rotate_left
    · have g := (k 6 (by decide)).mpr c6
      rw [if_neg c6, if_neg c6, if_pos g, if_neg (by decide), if_neg (by decide)]; exact S 4 (by decide)
    have g6 := fun z => (k 6 (by decide)).mp z c6
    rw [if_pos c6, if_pos c6, if_neg g6, if_pos rfl, if_pos rfl]
    refine Or.inr ⟨rfl, (SK.of Z1 (by decide)).bd ?_ pr_upe⟩
    rw [pr_upk (by decide), pr_upe]
end NOP
