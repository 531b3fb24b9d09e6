/-! READING ON BOTH SIDES: numbers and the ends of links -/
/-- an error that stands -/
def SK (φ : pr_I) (e w : Int32) : Prop := φ 0 0 = e ∧ φ 0 1 = w ∧ ¬ e = 0
section RP
variable {φ : pr_I} {b : Nat → Int32} {n p : Nat}
theorem IS.err (h : IS φ b n p) {e w : Int32} : IS (in_fail φ e w) b n p := by
  unfold in_fail
  split
  · refine ⟨by rw [pr_upk (by decide), pr_upk (by decide)]; exact h.1, by rw [pr_upk (by decide), pr_upk (by decide)]; exact h.2.1, h.2.2.1, h.2.2.2.1, ?_⟩
    rw [pr_up_ne (by decide), pr_up_ne (by decide)]; exact h.2.2.2.2
  · exact h
theorem SK.err {e w e' w' : Int32} (s : SK φ e w) : in_fail φ e' w' = φ := by
  unfold in_fail
  rw [if_neg (by rw [s.1]; exact s.2.2)]
theorem SK.of {e w : Int32} (h0 : φ 0 0 = 0) (he : ¬ e = 0) : SK (in_fail φ e w) e w := by
  unfold in_fail
  rw [if_pos h0]
  exact ⟨by rw [pr_upk (by decide), pr_upe], pr_upe, he⟩
theorem rdW_e {q e : Nat} : rdW φ q e 0 0 = φ 0 0 ∧ rdW φ q e 0 1 = φ 0 1 ∧ rdW φ q e 0 5 = nI q := by
  unfold rdW
  refine ⟨?_, ?_, ?_⟩
  · rw [pr_upk (by decide), pr_upk (by decide), pr_upk (by decide)]
  · rw [pr_upk (by decide), pr_upk (by decide), pr_upk (by decide)]
  · rw [pr_upk (by decide), pr_upe]
theorem at_e {v : Int32} : pr_up φ 0 4 v 0 0 = φ 0 0 ∧ pr_up φ 0 4 v 0 1 = φ 0 1 := ⟨pr_upk (by decide), pr_upk (by decide)⟩
theorem SK.rdw {e w : Int32} (s : SK φ e w) (h : IS φ b n p) : ∃ p', IS (in_rw φ) b n p' ∧ SK (in_rw φ) e w := by
  obtain ⟨_, s1, s2⟩ := h.skp
  obtain ⟨w1, w2⟩ := we_le (b := b) s2
  have I := h.rdS s2 w2
  have S : SK (rdW φ (sk b n p) (we b n (sk b n p))) e w := ⟨rdW_e.1.trans s.1, rdW_e.2.1.trans s.2.1, s.2.2⟩
  rw [h.rdw.2]
  refine ⟨we b n (sk b n p), ?_, ?_⟩
  · split
    · exact I.err
    · exact I
  · split
    · rw [S.err]; exact S
    · exact S
theorem SK.rdn {e w x y : Int32} (s : SK φ e w) (h : IS φ b n p) : ∃ p', IS (in_rn φ x y) b n p' ∧ SK (in_rn φ x y) e w := by
  obtain ⟨_, s1, s2⟩ := h.skp
  obtain ⟨u1, u2⟩ := nu_le1 (b := b) (v := 0) s2
  have I := h.at u2
  have S : SK (pr_up φ 0 4 (nI (nu b n (sk b n p) 0).1)) e w := ⟨at_e.1.trans s.1, at_e.2.trans s.2.1, s.2.2⟩
  rw [h.rdn.2.1, S.err, S.err]
  refine ⟨(nu b n (sk b n p) 0).1, ?_, ?_⟩
  · rw [ite_self, ite_self, ite_self]; exact I
  · rw [ite_self, ite_self, ite_self]; exact S
theorem kn_s {τ : pr_I} {ν : Nat → Int64} : in_kn φ τ ν = (if (w_nw_r τ ν (ndn τ) (in_rw_r φ)) = ((-1) : Int32) then (in_fail (in_rw φ) (3 : Int32) ((in_rw φ) 0 5)) else (in_rw φ)) := rfl
theorem SK.kn {τ : pr_I} {ν : Nat → Int64} {e w : Int32} (s : SK φ e w) (h : IS φ b n p) : ∃ p', IS (in_kn φ τ ν) b n p' ∧ SK (in_kn φ τ ν) e w := by
  obtain ⟨p', I, S⟩ := s.rdw h
  refine ⟨p', ?_⟩
  rw [kn_s, S.err, ite_self]
  exact ⟨I, S⟩
/-- a number on both sides -/
theorem num_pair (h : IS φ b n p) (h0 : φ 0 0 = 0) {X : pr_I} (h7 : X 7 = b) {pl : Nat} {lo hi : Int32} :
    (¬ m_rd_r X n p pl lo hi = 0 ∧ in_rn_r φ lo hi = (nu b n (sk b n p) 0).2.toInt32 ∧ in_rn φ lo hi = pr_up φ 0 4 (nI (nu b n (sk b n p) 0).1) ∧ lo.toInt ≤ ((nu b n (sk b n p) 0).2.toInt32).toInt ∧ ((nu b n (sk b n p) 0).2.toInt32).toInt ≤ hi.toInt ∧ m_rd X n p pl lo hi = pr_up (pr_up (pr_up (pr_up X 0 9 (nI (sk b n p))) 0 10 (nI (sk b n p))) 0 9 (nI (nu b n (sk b n p) 0).1)) 3 pl ((nu b n (sk b n p) 0).2.toInt32))
    ∨ (m_rd_r X n p pl lo hi = 0 ∧ ∃ kd w, SK (in_rn φ lo hi) kd w ∧ (∃ p', IS (in_rn φ lo hi) b n p') ∧ m_rd X n p pl lo hi 0 12 = kd ∧ m_rd X n p pl lo hi 0 11 = w) := by
  obtain ⟨_, s1, s2⟩ := h.skp
  obtain ⟨u1, u2⟩ := nu_le1 (b := b) (v := 0) s2
  have I := h.at u2
  have Z : pr_up φ 0 4 (nI (nu b n (sk b n p) 0).1) 0 0 = 0 := at_e.1.trans h0
  obtain ⟨R1, R2, R3, R4⟩ := h.rdn (x := lo) (y := hi)
  have eV : ((nu b n (sk b n p) 0).2.toInt32).toInt = (nu b n (sk b n p) 0).2.toInt := by
    rw [Int64.toInt_toInt32]; exact bm32 (by omega) (by omega)
  unfold m_rd_r m_rd
  rw [h7]
  by_cases c : isd b n (sk b n p)
  · have c0 : ¬ idg b n (sk b n p) = 0 := by rw [idg_1 c]; decide
    have c1 : ¬ (nu b n (sk b n p) 0).1 = sk b n p := fun z => by
      rw [nu_step c] at z
      have := (nu_le1 (b := b) (n := n) (p := sk b n p + 1) (v := (if ((10 : Int64) * 0) + (bt b n (sk b n p)).toInt64 - (48 : Int64) < (1000000 : Int64) then ((10 : Int64) * 0) + (bt b n (sk b n p)).toInt64 - (48 : Int64) else (1000000 : Int64))) (by have := c.1; omega)).1
      omega
    rw [if_neg c0, if_neg c0]
    rw [if_neg c1] at R2
    have mi : m_in_r X (nu b n (sk b n p) 0).2 lo.toInt64 hi.toInt64 = (if (nu b n (sk b n p) 0).2.toInt32 < lo then 0 else if hi < (nu b n (sk b n p) 0).2.toInt32 then 0 else 1) := by
      unfold m_in_r
      have a1 : lg_cmp (nu b n (sk b n p) 0).2 lo.toInt64 < 0 ↔ (nu b n (sk b n p) 0).2.toInt32 < lo := by
        rw [lg_lt0, Int64.lt_iff_toInt_lt, Int32.toInt_toInt64, lt_i, eV]
      have a2 : 0 < lg_cmp (nu b n (sk b n p) 0).2 hi.toInt64 ↔ hi < (nu b n (sk b n p) 0).2.toInt32 := by
        rw [lg_gt0, Int64.lt_iff_toInt_lt, Int32.toInt_toInt64, lt_i, eV]
      by_cases q1 : (nu b n (sk b n p) 0).2.toInt32 < lo
      · rw [if_pos q1, if_pos (a1.mpr q1)]
      · rw [if_neg q1, if_neg (fun z => q1 (a1.mp z))]
        by_cases q2 : hi < (nu b n (sk b n p) 0).2.toInt32
        · rw [if_pos q2, if_pos (a2.mpr q2)]
        · rw [if_neg q2, if_neg (fun z => q2 (a2.mp z))]
    rw [mi]
    have bad : ∀ X' : pr_I, in_rn φ lo hi = in_fail (pr_up φ 0 4 (nI (nu b n (sk b n p) 0).1)) 2 (nI (sk b n p)) → ∃ kd w, SK (in_rn φ lo hi) kd w ∧ (∃ p', IS (in_rn φ lo hi) b n p') ∧ pr_up (pr_up X' 0 12 (2 : Int32)) 0 11 (nI (sk b n p)) 0 12 = kd ∧ pr_up (pr_up X' 0 12 (2 : Int32)) 0 11 (nI (sk b n p)) 0 11 = w := fun X' e => by
      rw [e]
      exact ⟨2, nI (sk b n p), SK.of Z (by decide), ⟨_, I.err⟩, by rw [pr_upk (by decide), pr_upe], pr_upe⟩
    by_cases q1 : (nu b n (sk b n p) 0).2.toInt32 < lo
    · rw [if_pos q1] at R2
      rw [if_pos q1, if_pos rfl, if_pos rfl]
      exact Or.inr ⟨rfl, bad _ R2⟩
    · rw [if_neg q1] at R2 ⊢
      have q1' : ¬ ((nu b n (sk b n p) 0).2.toInt32).toInt < lo.toInt := fun z => q1 (lt_i.mpr z)
      by_cases q2 : hi < (nu b n (sk b n p) 0).2.toInt32
      · rw [if_neg (fun z => by have := le_i.mp z; have := lt_i.mp q2; omega)] at R2
        rw [if_pos q2, if_pos rfl, if_pos rfl]
        exact Or.inr ⟨rfl, bad _ R2⟩
      · have q2' : ¬ hi.toInt < ((nu b n (sk b n p) 0).2.toInt32).toInt := fun z => q2 (lt_i.mpr z)
        rw [if_pos (le_i.mpr (by omega))] at R2
        rw [if_neg q2, if_neg (show ¬ (1 : Int32) = 0 by decide), if_neg (show ¬ (1 : Int32) = 0 by decide)]
        exact Or.inl ⟨by decide, R1, R2, by omega, by omega, rfl⟩
  · have c0 : idg b n (sk b n p) = 0 := idg_0 c
    have c1 : (nu b n (sk b n p) 0).1 = sk b n p := by rw [nu_stop c]
    rw [if_pos c1] at R2
    rw [if_pos c0, if_pos c0, R2]
    exact Or.inr ⟨rfl, 1, nI (sk b n p), SK.of Z (by decide), ⟨_, I.err⟩, by rw [pr_upk (by decide), pr_upe], pr_upe⟩
/-- an end of a link on both sides -/
theorem end_pair {τ : pr_I} {ν : Nat → Int64} {fn : Nat} (h : IS φ b n p) (h0 : φ 0 0 = 0) {X : pr_I} (h7 : X 7 = b) (nm : NM ν (X 3) fn) (hf : ndn τ = fn) (f12 : fn ≤ 12) {pl : Nat} {y : Int32} :
    (¬ m_re_r X n p fn pl y = 0 ∧ ∃ k, k < fn ∧ nmd (X 3) b (sk b n p) (we b n (sk b n p) - sk b n p) fn = nI k ∧ in_kn_r φ τ ν = nI k ∧ in_kn φ τ ν = rdW φ (sk b n p) (we b n (sk b n p)) ∧ ¬ nI k = y ∧ m_re X n p fn pl y = pr_up (pr_up (pr_up (pr_up X 0 9 (nI (sk b n p))) 0 10 (nI (sk b n p))) 3 pl (nI k)) 0 9 (nI (we b n (sk b n p))))
    ∨ (m_re_r X n p fn pl y = 0 ∧ m_re X n p fn pl y 0 11 = nI (sk b n p) ∧ ((m_re X n p fn pl y 0 12 = 3 ∧ (∃ k, k < fn ∧ y = nI k) ∧ in_kn_r φ τ ν = y ∧ in_kn φ τ ν = rdW φ (sk b n p) (we b n (sk b n p))) ∨ ∃ kd, SK (in_kn φ τ ν) kd (nI (sk b n p)) ∧ (∃ p', IS (in_kn φ τ ν) b n p') ∧ m_re X n p fn pl y 0 12 = kd)) := by
  obtain ⟨_, s1, s2⟩ := h.skp
  obtain ⟨w1, w2⟩ := we_le (b := b) s2
  have n7 := h.2.2.2.1
  have I := h.rdS s2 w2
  obtain ⟨R1, R2⟩ := h.rdw
  have L := nm.look (σ := τ) (b := b) (f := sk b n p) (c := we b n (sk b n p) - sk b n p) f12 we_lt8 (by omega)
  have ekr : in_kn_r φ τ ν = nmd (X 3) b (sk b n p) (we b n (sk b n p) - sk b n p) fn := by
    unfold in_kn_r
    rw [ite_self, R1, hf]; exact L.1
  have ek : in_kn φ τ ν = (if nmd (X 3) b (sk b n p) (we b n (sk b n p) - sk b n p) fn = ((-1) : Int32) then (in_fail (in_rw φ) (3 : Int32) ((in_rw φ) 0 5)) else (in_rw φ)) := by
    rw [kn_s, R1, hf, L.1]
  have Z : rdW φ (sk b n p) (we b n (sk b n p)) 0 0 = 0 := rdW_e.1.trans h0
  unfold m_re_r m_re
  rw [h7]
  by_cases c : isl b n (sk b n p)
  · have c0 : ¬ il b n (sk b n p) = 0 := by rw [il_1 c]; decide
    have c1 : ¬ we b n (sk b n p) = sk b n p := fun z => by
      rw [we_step c] at z
      have := (we_le (b := b) (n := n) (p := sk b n p + 1) (by have := c.1; omega)).1
      omega
    rw [if_neg c1] at R2
    rw [R2] at ek
    rw [if_neg c0, if_neg c0]
    rcases L.2 with q | ⟨k, k1, k2⟩
    · rw [if_pos q] at ek
      rw [if_pos q, if_pos q]
      refine Or.inr ⟨rfl, pr_upe, Or.inr ⟨3, ?_, ⟨_, by rw [ek]; exact I.err⟩, by rw [pr_upk (by decide), pr_upe]⟩⟩
      rw [ek, rdW_e.2.2]
      exact SK.of Z (by decide)
    · have km : ¬ nmd (X 3) b (sk b n p) (we b n (sk b n p) - sk b n p) fn = -1 := by rw [k2]; exact nI_m1n (by omega)
      rw [if_neg km] at ek
      rw [if_neg km, if_neg km]
      by_cases e : nmd (X 3) b (sk b n p) (we b n (sk b n p) - sk b n p) fn = y
      · rw [if_pos e, if_pos e]
        exact Or.inr ⟨rfl, pr_upe, Or.inl ⟨by rw [pr_upk (by decide), pr_upe], ⟨k, k1, e.symm.trans k2⟩, ekr.trans e, ek⟩⟩
      · rw [if_neg e, if_neg e]
        exact Or.inl ⟨by decide, k, k1, k2, ekr.trans k2, ek, fun z => e (k2.trans z), by rw [k2]⟩
  · have c0 : il b n (sk b n p) = 0 := il_0 c
    have c1 : we b n (sk b n p) = sk b n p := we_stop c
    rw [if_pos c1] at R2
    rw [if_pos c0, if_pos c0]
    have S : SK (in_rw φ) 1 (nI (sk b n p)) := by rw [R2]; exact SK.of Z (by decide)
    have J : IS (in_rw φ) b n (we b n (sk b n p)) := by rw [R2]; exact I.err
    rw [S.err, ite_self] at ek
    rw [ek]
    exact Or.inr ⟨rfl, pr_upe, Or.inr ⟨1, S, ⟨_, J⟩, by rw [pr_upk (by decide), pr_upe]⟩⟩
end RP
