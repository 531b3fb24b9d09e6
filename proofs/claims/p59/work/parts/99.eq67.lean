/-! STATEMENTS ON BOTH SIDES: a link read -/
section RSS
variable {Y : pr_I} {b r : Nat → Int32} {n p fn pl : Nat}
theorem reS7 : reS Y b r n p fn pl 7 = Y 7 := by unfold reS; rw [u07, u37, u07, u07]
theorem reS12 : reS Y b r n p fn pl 0 12 = Y 0 12 := by unfold reS; rw [u912, u30, u1012, u912]
theorem reS3 {i : Nat} : reS Y b r n p fn pl 3 i = if i = pl then nmd r b (sk b n p) ((we b n (sk b n p)) - (sk b n p)) fn else Y 3 i := by unfold reS; rw [u03, u33, u03, u03]
theorem rdS7 : rdS Y b n p pl 7 = Y 7 := by unfold rdS; rw [u37, u07, u07, u07]
theorem rdS12 : rdS Y b n p pl 0 12 = Y 0 12 := by unfold rdS; rw [u30, u912, u1012, u912]
theorem rdS9 : rdS Y b n p pl 0 9 = nI (nu b n (sk b n p) 0).1 := by unfold rdS; rw [u30, pr_upe]
theorem rdS3 {i : Nat} : rdS Y b n p pl 3 i = if i = pl then (nu b n (sk b n p) 0).2.toInt32 else Y 3 i := by unfold rdS; rw [u33, u03, u03, u03]
end RSS
section LIP
variable {φ X τ : pr_I} {ν : Nat → Int64} {b : Nat → Int32} {n e q fn fl : Nat}
theorem li_pair (h : IS φ b n e) (h0 : φ 0 0 = 0) (he : we b n q = e) (h7 : X 7 = b) (h12 : X 0 12 = 0) (ld : LD τ ν (X 3) fn fl) :
    (¬ m_rl_r X n q fn fl = 0 ∧ GD (in_li φ τ ν (nI q)) (m_rl X n q fn fl) (in_li_w τ φ ν (nI q)) ν b n)
    ∨ (m_rl_r X n q fn fl = 0 ∧ BD (in_li φ τ ν (nI q)) (m_rl X n q fn fl)) := by
  subst h7
  subst he
  have fl24 := ld.1.2.1.2.2
  have f12 := ld.1.1.2.2
  rw [rlr_eq, rl_eq, li_eq, liw_eq, ld.nl]
  by_cases c : fl = 24
  · subst c
    rw [if_pos rfl, if_pos rfl, if_neg (by decide)]
    exact Or.inr ⟨rfl, (SK.of h0 (by decide)).bd (by rw [pr_upk (by decide), pr_upe]) pr_upe⟩
  have c1 : ¬ nI fl = nI 24 := fun z => c ((nI_eq (by omega) (by omega)).mp z)
  have c2 : nI fl < nI 24 := lt_i.mpr (by rw [nI_toI (by omega), nI_toI (by omega)]; omega)
  rw [if_neg c1, if_neg c1, if_pos c2, if_pos c2]
  obtain ⟨_, sa, sb⟩ := h.skp
  obtain ⟨wa, wb⟩ := we_le (b := X 7) sb
  have nm0 := ld.2.2.2.2
  have hx13 : (xl1 X n q) 3 = X 3 := u03
  rcases end_pair (τ := τ) (ν := ν) (fn := fn) h h0 (X := xl1 X n q) (by exact u07) (by rw [hx13]; exact nm0) ld.nn f12 (pl := 96 + 7 * fl + 0) (y := (-1 : Int32)) with ⟨d1, k1, k1l, k1e, r1, r2, _, _⟩ | ⟨d1, w1, (⟨_, ⟨k, kl, ke⟩, _⟩ | ⟨kd, S, ⟨p', I⟩, m12⟩)⟩
  · rw [if_neg d1, if_neg d1]
    rw [hx13] at k1e
    have kl : kl1 X n q fn = nI k1 := k1e
    have I2 : IS (in_kn φ τ ν) (X 7) n (pl2 X n q) := by rw [r2]; exact h.rdS sb wb
    have Z2 : (in_kn φ τ ν) 0 0 = 0 := by rw [r2]; exact rdW_e.1.trans h0
    have x27 : (xl2 X n q fn fl) 7 = X 7 := reS7.trans u07
    have x2e : ∀ i, (xl2 X n q fn fl) 3 i = if i = 96 + 7 * fl + 0 then nI k1 else X 3 i := fun i => by
      unfold xl2; rw [reS3, k1e, hx13]
    have x212 : (xl2 X n q fn fl) 0 12 = 0 := reS12.trans (u912.trans h12)
    obtain ⟨_, sa2, sb2⟩ := I2.skp
    obtain ⟨wa2, wb2⟩ := we_le (b := X 7) sb2
    have nm2 : NM ν ((xl2 X n q fn fl) 3) fn := nm0.cong f12 (fun i _ hi => by rw [x2e, if_neg (by omega)])
    rcases end_pair (τ := τ) (ν := ν) (fn := fn) I2 Z2 (X := xl2 X n q fn fl) x27 nm2 ld.nn f12 (pl := 96 + 7 * fl + 1) (y := kl1 X n q fn) with ⟨d2, k2, k2l, k2e, r3, r4, ne, _⟩ | ⟨d2, w2, (⟨m12, _, r3, r4⟩ | ⟨kd, S, ⟨p', I⟩, m12⟩)⟩
    · rw [if_neg d2, if_neg d2]
      have eY : LY φ τ ν = in_kn (in_kn φ τ ν) τ ν := by
        unfold LY
        rw [if_neg (fun z => ne (r3.symm.trans (z.symm.trans (r1.trans kl.symm))))]
      rw [eY]
      have I3 : IS (in_kn (in_kn φ τ ν) τ ν) (X 7) n (pl3 X n q) := by rw [r4]; exact I2.rdS sb2 wb2
      have Z3 : (in_kn (in_kn φ τ ν) τ ν) 0 0 = 0 := by rw [r4]; exact rdW_e.1.trans Z2
      have x37 : (xl3 X n q fn fl) 7 = X 7 := reS7.trans x27
      have k2e' : nmd (reQ (xl1 X n q) (X 7) (X 3) n (we (X 7) n q) fn (96 + 7 * fl + 0) 3) (X 7) (sk (X 7) n (pl2 X n q)) ((we (X 7) n (sk (X 7) n (pl2 X n q))) - (sk (X 7) n (pl2 X n q))) fn = nI k2 := by
        rw [← show (xl2 X n q fn fl) 3 = (reQ (xl1 X n q) (X 7) (X 3) n (we (X 7) n q) fn (96 + 7 * fl + 0)) 3 from by unfold xl2 reS reQ; exact u03]; exact k2e
      have x3e : ∀ i, (xl3 X n q fn fl) 3 i = if i = 96 + 7 * fl + 1 then nI k2 else (xl2 X n q fn fl) 3 i := fun i => by
        unfold xl3; rw [reS3, k2e']
      have x312 : (xl3 X n q fn fl) 0 12 = 0 := reS12.trans x212
      obtain ⟨_, _, sb3⟩ := I3.skp
      obtain ⟨_, ub3⟩ := nu_le1 (b := X 7) (v := 0) sb3
      rcases num_pair I3 Z3 (X := xl3 X n q fn fl) x37 (pl := 96 + 7 * fl + 2) (lo := (0 : Int32)) (hi := (1000 : Int32)) with ⟨d3, a1, a2, a3, a4, _⟩ | ⟨d3, kd, w, S, ⟨p', I⟩, m12, m11⟩
      · rw [if_neg d3, if_neg d3]
        have I4 : IS (in_rn (in_kn (in_kn φ τ ν) τ ν) 0 1000) (X 7) n (pl4 X n q) := by rw [a2]; exact I3.at ub3
        have Z4 : (in_rn (in_kn (in_kn φ τ ν) τ ν) 0 1000) 0 0 = 0 := by rw [a2]; exact at_e.1.trans Z3
        have x47 : (xl4 X n q fn fl) 7 = X 7 := rdS7.trans x37
        have x412 : (xl4 X n q fn fl) 0 12 = 0 := rdS12.trans x312
        obtain ⟨_, _, sb4⟩ := I4.skp
        obtain ⟨_, ub4⟩ := nu_le1 (b := X 7) (v := 0) sb4
        rcases num_pair I4 Z4 (X := xl4 X n q fn fl) x47 (pl := 96 + 7 * fl + 3) (lo := (0 : Int32)) (hi := (1000 : Int32)) with ⟨d4, b1, b2, b3, b4, _⟩ | ⟨d4, kd, w, S, ⟨p', I⟩, m12, m11⟩
        · rw [if_neg d4, if_neg d4]
          have I5 : IS (in_rn (in_rn (in_kn (in_kn φ τ ν) τ ν) 0 1000) 0 1000) (X 7) n (pl5 X n q) := by rw [b2]; exact I4.at ub4
          have Z5 : (in_rn (in_rn (in_kn (in_kn φ τ ν) τ ν) 0 1000) 0 1000) 0 0 = 0 := by rw [b2]; exact at_e.1.trans Z4
          have x57 : (xl5 X n q fn fl) 7 = X 7 := rdS7.trans x47
          have x512 : (xl5 X n q fn fl) 0 12 = 0 := rdS12.trans x412
          obtain ⟨_, _, sb5⟩ := I5.skp
          obtain ⟨_, ub5⟩ := nu_le1 (b := X 7) (v := 0) sb5
          rcases num_pair I5 Z5 (X := xl5 X n q fn fl) x57 (pl := 96 + 7 * fl + 4) (lo := (1 : Int32)) (hi := (50 : Int32)) with ⟨d5, e1, e2, e3, e4, _⟩ | ⟨d5, kd, w, S, ⟨p', I⟩, m12, m11⟩
          · rw [if_neg d5, if_neg d5]
            have Z6 : L3 (in_kn (in_kn φ τ ν) τ ν) 0 0 = 0 := by unfold L3; rw [e2]; exact at_e.1.trans Z5
            rw [if_pos Z6]
            refine Or.inl ⟨by decide, (nu (X 7) n (sk (X 7) n (pl5 X n q)) 0).1, fn, fl + 1, ?_, Z6, ?_, ?_, ?_, ?_⟩
            · unfold L3; rw [e2]; exact I5.at ub5
            · rw [u37, u37]; exact rdS7.trans x57
            · rw [u30, u30]; exact rdS9
            · rw [u30, u30]; exact rdS12.trans x512
            · rw [r1, r3, a1, b1, e1]
              refine ld.link (by omega) (nI_vin k1l (by omega)) (nI_vin k2l (by omega)) (fun z => ne (z.symm.trans kl.symm)) ⟨b3, b4⟩ ⟨e3, e4⟩ ⟨a3, a4⟩ (fun i => ?_)
              rw [u33, u33]
              unfold xl6
              rw [rdS3]
              unfold xl5
              rw [rdS3]
              unfold xl4
              rw [rdS3, x3e, x2e]
          · rw [if_pos d5, if_pos d5]
            exact Or.inr ⟨rfl, S.bd m12 m11⟩
        · rw [if_pos d4, if_pos d4]
          obtain ⟨p6, I6, S6⟩ := S.rdn I (x := 1) (y := 50)
          exact Or.inr ⟨rfl, S6.bd m12 m11⟩
      · rw [if_pos d3, if_pos d3]
        obtain ⟨p5, I5, S5⟩ := S.rdn I (x := 0) (y := 1000)
        obtain ⟨p6, I6, S6⟩ := S5.rdn I5 (x := 1) (y := 50)
        exact Or.inr ⟨rfl, S6.bd m12 m11⟩
    · rw [if_pos d2, if_pos d2]
      have eY : LY φ τ ν = in_fail (in_kn (in_kn φ τ ν) τ ν) (3 : Int32) ((in_kn (in_kn φ τ ν) τ ν) 0 5) := by
        unfold LY
        rw [if_pos (r1.trans (kl.symm.trans r3.symm))]
      rw [eY]
      have I3 : IS (in_kn (in_kn φ τ ν) τ ν) (X 7) n (pl3 X n q) := by rw [r4]; exact I2.rdS sb2 wb2
      have Z3 : (in_kn (in_kn φ τ ν) τ ν) 0 0 = 0 := by rw [r4]; exact rdW_e.1.trans Z2
      have e5 : (in_kn (in_kn φ τ ν) τ ν) 0 5 = nI (sk (X 7) n (pl2 X n q)) := by rw [r4]; exact rdW_e.2.2
      have S := (SK.of (e := 3) (w := (in_kn (in_kn φ τ ν) τ ν) 0 5) Z3 (by decide)).l3 I3.err
      exact Or.inr ⟨rfl, S.bd m12 (w2.trans e5.symm)⟩
    · rw [if_pos d2, if_pos d2]
      exact Or.inr ⟨rfl, (S.ly I).bd m12 w2⟩
  · exact absurd ke.symm (nI_m1n (by omega))
  · rw [if_pos d1, if_pos d1]
    obtain ⟨p2, I2, S2⟩ := S.kn I (τ := τ) (ν := ν)
    exact Or.inr ⟨rfl, (S2.ly I2).bd m12 w1⟩
end LIP
