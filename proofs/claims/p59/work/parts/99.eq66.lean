/-! STATEMENTS ON BOTH SIDES: a setting, a link -/
theorem u33 {Y : pr_I} {k j : Nat} {v : Int32} : pr_up Y 3 k v 3 j = if j = k then v else Y 3 j := by
  by_cases c : j = k
  · rw [if_pos c, c, pr_upe]
  · rw [if_neg c, pr_upk c]
theorem u03 {Y : pr_I} {k : Nat} {v : Int32} : pr_up Y 0 k v 3 = Y 3 := pr_up_ne (by decide)
theorem u07 {Y : pr_I} {k : Nat} {v : Int32} : pr_up Y 0 k v 7 = Y 7 := pr_up_ne (by decide)
theorem u37 {Y : pr_I} {k : Nat} {v : Int32} : pr_up Y 3 k v 7 = Y 7 := pr_up_ne (by decide)
theorem u30 {Y : pr_I} {k : Nat} {v : Int32} : pr_up Y 3 k v 0 = Y 0 := pr_up_ne (by decide)
theorem u912 {Y : pr_I} {v : Int32} : pr_up Y 0 9 v 0 12 = Y 0 12 := pr_upk (by decide)
theorem u1012 {Y : pr_I} {v : Int32} : pr_up Y 0 10 v 0 12 = Y 0 12 := pr_upk (by decide)
/-- the names live in the cells below 96 -/
theorem NM.cong {ν : Nat → Int64} {r r' : Nat → Int32} {nn : Nat} (h : NM ν r nn) (n12 : nn ≤ 12) (e : ∀ i, 12 ≤ i → i < 96 → r' i = r i) : NM ν r' nn := by
  refine ⟨fun k hk => ?_, h.2⟩
  obtain ⟨c0, x1, x2, x3, x4, x5⟩ := h.1 k hk
  have er : ∀ t, t < c0 → r' (12 + 7 * k + 1 + t) = r (12 + 7 * k + 1 + t) := fun t ht => e _ (by omega) (by omega)
  have l8 : lt8 (fun t => r' (12 + 7 * k + 1 + t)) c0 := fun t ht => by
    show 1 ≤ (r' (12 + 7 * k + 1 + t)).toInt ∧ (r' (12 + 7 * k + 1 + t)).toInt ≤ 255
    rw [er t ht]; exact x4 t ht
  refine ⟨c0, x1, x2, by rw [e _ (by omega) (by omega)]; exact x3, l8, ?_⟩
  rw [x5]
  exact (pkf_inj x2 x2 x4 l8).mpr ⟨rfl, fun t ht => (er t ht).symm⟩
section STM
variable {φ X τ : pr_I} {ν : Nat → Int64} {b : Nat → Int32} {n e q fn fl : Nat}
theorem set_pair (h : IS φ b n e) (h0 : φ 0 0 = 0) (he : we b n q = e) (h7 : X 7 = b) (h12 : X 0 12 = 0) (ld : LD τ ν (X 3) fn fl) {j : Nat} (hj : j < 5) :
    (¬ m_rg_r X n q (j + 1) = 0 ∧ GD (in_rn φ (pr_sv 1 j) (pr_sv 2 j)) (m_rg X n q (j + 1)) (pr_up τ 119 j (in_rn_r φ (pr_sv 1 j) (pr_sv 2 j))) ν b n)
    ∨ (m_rg_r X n q (j + 1) = 0 ∧ BD (in_rn φ (pr_sv 1 j) (pr_sv 2 j)) (m_rg X n q (j + 1))) := by
  obtain ⟨_, s1, s2⟩ := h.skp
  obtain ⟨u1, u2⟩ := nu_le1 (b := b) (v := 0) s2
  obtain ⟨l1, l2⟩ := sv_ms j hj
  unfold m_rg_r m_rg
  rw [h7, he, l1, l2]
  rcases num_pair (φ := φ) h h0 (X := pr_up X 0 9 (nI e)) (u07.trans h7) (pl := j + 1) (lo := pr_sv 1 j) (hi := pr_sv 2 j) with ⟨c, a1, a2, a3, a4, a5⟩ | ⟨c, kd, w, S, _, a1, a2⟩
  · rw [if_neg c]
    refine Or.inl ⟨by decide, (nu b n (sk b n e) 0).1, fn, fl, ?_, ?_, ?_, ?_, ?_, ?_⟩
    · rw [a2]; exact h.at u2
    · rw [a2]; exact at_e.1.trans h0
    · rw [a5, u37, u07, u07, u07, u07]; exact h7
    · rw [a5, u30, pr_upe]
    · rw [a5, u30, u912, u1012, u912, u912]; exact h12
    · rw [a1]
      refine ld.set hj a3 a4 (fun i => ?_)
      rw [a5, u33, u03, u03, u03, u03]
  · rw [if_pos c]
    exact Or.inr ⟨rfl, S.bd a1 a2⟩
/-! a link -/
noncomputable def L3 (Y : pr_I) : pr_I := in_rn (in_rn (in_rn Y (0 : Int32) (1000 : Int32)) (0 : Int32) (1000 : Int32)) (1 : Int32) (50 : Int32)
noncomputable def LY (φ τ : pr_I) (ν : Nat → Int64) : pr_I := if (in_kn_r φ τ ν) = (in_kn_r (in_kn φ τ ν) τ ν) then in_fail (in_kn (in_kn φ τ ν) τ ν) (3 : Int32) ((in_kn (in_kn φ τ ν) τ ν) 0 5) else in_kn (in_kn φ τ ν) τ ν
theorem li_eq {p : Int32} : in_li φ τ ν p = if nI (lkn τ) < nI 24 then L3 (LY φ τ ν) else in_fail φ (4 : Int32) p := by
  unfold in_li L3 LY
  rw [ite_self, ite_self]
  by_cases c : (in_kn_r φ τ ν) = (in_kn_r (in_kn φ τ ν) τ ν)
  · rw [if_pos c, if_pos c]
  · rw [if_neg c, if_neg c]
theorem liw_eq {p : Int32} : in_li_w τ φ ν p = if nI (lkn τ) < nI 24 then (if (L3 (LY φ τ ν)) 0 0 = 0 then lk_add τ (lkn τ) (in_kn_r φ τ ν) (in_kn_r (in_kn φ τ ν) τ ν) (in_rn_r (LY φ τ ν) (0 : Int32) (1000 : Int32)) (in_rn_r (in_rn (LY φ τ ν) (0 : Int32) (1000 : Int32)) (0 : Int32) (1000 : Int32)) (in_rn_r (in_rn (in_rn (LY φ τ ν) (0 : Int32) (1000 : Int32)) (0 : Int32) (1000 : Int32)) (1 : Int32) (50 : Int32)) else τ) else τ := by
  unfold in_li_w L3 LY
  by_cases c : (in_kn_r φ τ ν) = (in_kn_r (in_kn φ τ ν) τ ν)
  · rw [if_pos c, if_pos c]
  · rw [if_neg c, if_neg c]
theorem SK.l3 {Y : pr_I} {k w : Int32} {p : Nat} (s : SK Y k w) (h : IS Y b n p) : SK (L3 Y) k w := by
  obtain ⟨p1, i1, s1⟩ := s.rdn h (x := 0) (y := 1000)
  obtain ⟨p2, i2, s2⟩ := s1.rdn i1 (x := 0) (y := 1000)
  obtain ⟨p3, i3, s3⟩ := s2.rdn i2 (x := 1) (y := 50)
  exact s3
theorem SK.ly {k w : Int32} {p : Nat} (s : SK (in_kn (in_kn φ τ ν) τ ν) k w) (h : IS (in_kn (in_kn φ τ ν) τ ν) b n p) : SK (L3 (LY φ τ ν)) k w := by
  have e : LY φ τ ν = in_kn (in_kn φ τ ν) τ ν := by unfold LY; rw [s.err, ite_self]
  rw [e]; exact s.l3 h
/-- behind an end -/
noncomputable def reS (Y : pr_I) (b r : Nat → Int32) (n p fn pl : Nat) : pr_I := pr_up (pr_up (pr_up (pr_up Y 0 9 (nI (sk b n p))) 0 10 (nI (sk b n p))) 3 pl (nmd r b (sk b n p) ((we b n (sk b n p)) - (sk b n p)) fn)) 0 9 (nI (we b n (sk b n p)))
noncomputable def reQ (Y : pr_I) (b r : Nat → Int32) (n p fn pl : Nat) : pr_I := pr_up (pr_up (pr_up Y 0 9 (nI (sk b n p))) 0 10 (nI (sk b n p))) 3 pl (nmd r b (sk b n p) ((we b n (sk b n p)) - (sk b n p)) fn)
/-- behind a number -/
noncomputable def rdS (Y : pr_I) (b : Nat → Int32) (n p pl : Nat) : pr_I := pr_up (pr_up (pr_up (pr_up Y 0 9 (nI (sk b n p))) 0 10 (nI (sk b n p))) 0 9 (nI (nu b n (sk b n p) 0).1)) 3 pl ((nu b n (sk b n p) 0).2.toInt32)
noncomputable def xl1 (X : pr_I) (n q : Nat) : pr_I := pr_up X 0 9 (nI (we (X 7) n q))
noncomputable def pl2 (X : pr_I) (n q : Nat) : Nat := we (X 7) n (sk (X 7) n (we (X 7) n q))
noncomputable def xl2 (X : pr_I) (n q fn fl : Nat) : pr_I := reS (xl1 X n q) (X 7) (X 3) n (we (X 7) n q) fn (96 + 7 * fl + 0)
noncomputable def pl3 (X : pr_I) (n q : Nat) : Nat := we (X 7) n (sk (X 7) n (pl2 X n q))
noncomputable def xl3 (X : pr_I) (n q fn fl : Nat) : pr_I := reS (xl2 X n q fn fl) (X 7) (reQ (xl1 X n q) (X 7) (X 3) n (we (X 7) n q) fn (96 + 7 * fl + 0) 3) n (pl2 X n q) fn (96 + 7 * fl + 1)
noncomputable def pl4 (X : pr_I) (n q : Nat) : Nat := (nu (X 7) n (sk (X 7) n (pl3 X n q)) 0).1
noncomputable def xl4 (X : pr_I) (n q fn fl : Nat) : pr_I := rdS (xl3 X n q fn fl) (X 7) n (pl3 X n q) (96 + 7 * fl + 2)
noncomputable def pl5 (X : pr_I) (n q : Nat) : Nat := (nu (X 7) n (sk (X 7) n (pl4 X n q)) 0).1
noncomputable def xl5 (X : pr_I) (n q fn fl : Nat) : pr_I := rdS (xl4 X n q fn fl) (X 7) n (pl4 X n q) (96 + 7 * fl + 3)
noncomputable def xl6 (X : pr_I) (n q fn fl : Nat) : pr_I := rdS (xl5 X n q fn fl) (X 7) n (pl5 X n q) (96 + 7 * fl + 4)
noncomputable def kl1 (X : pr_I) (n q fn : Nat) : Int32 := nmd (X 3) (X 7) (sk (X 7) n (we (X 7) n q)) ((we (X 7) n (sk (X 7) n (we (X 7) n q))) - (sk (X 7) n (we (X 7) n q))) fn
theorem rlr_eq : m_rl_r X n q fn fl = (if (nI fl) = (nI 24) then (0 : Int32) else if m_re_r (xl1 X n q) n (we (X 7) n q) fn (96 + 7 * fl + 0) ((-1) : Int32) = 0 then (0 : Int32) else if m_re_r (xl2 X n q fn fl) n (pl2 X n q) fn (96 + 7 * fl + 1) (kl1 X n q fn) = 0 then (0 : Int32) else if m_rd_r (xl3 X n q fn fl) n (pl3 X n q) (96 + 7 * fl + 2) (0 : Int32) (1000 : Int32) = 0 then (0 : Int32) else if m_rd_r (xl4 X n q fn fl) n (pl4 X n q) (96 + 7 * fl + 3) (0 : Int32) (1000 : Int32) = 0 then (0 : Int32) else if m_rd_r (xl5 X n q fn fl) n (pl5 X n q) (96 + 7 * fl + 4) (1 : Int32) (50 : Int32) = 0 then (0 : Int32) else (1 : Int32)) := rfl
theorem rl_eq : m_rl X n q fn fl = (if (nI fl) = (nI 24) then (pr_up (pr_up X 0 12 (4 : Int32)) 0 11 (nI q)) else if m_re_r (xl1 X n q) n (we (X 7) n q) fn (96 + 7 * fl + 0) ((-1) : Int32) = 0 then m_re (xl1 X n q) n (we (X 7) n q) fn (96 + 7 * fl + 0) ((-1) : Int32) else if m_re_r (xl2 X n q fn fl) n (pl2 X n q) fn (96 + 7 * fl + 1) (kl1 X n q fn) = 0 then m_re (xl2 X n q fn fl) n (pl2 X n q) fn (96 + 7 * fl + 1) (kl1 X n q fn) else if m_rd_r (xl3 X n q fn fl) n (pl3 X n q) (96 + 7 * fl + 2) (0 : Int32) (1000 : Int32) = 0 then m_rd (xl3 X n q fn fl) n (pl3 X n q) (96 + 7 * fl + 2) (0 : Int32) (1000 : Int32) else if m_rd_r (xl4 X n q fn fl) n (pl4 X n q) (96 + 7 * fl + 3) (0 : Int32) (1000 : Int32) = 0 then m_rd (xl4 X n q fn fl) n (pl4 X n q) (96 + 7 * fl + 3) (0 : Int32) (1000 : Int32) else if m_rd_r (xl5 X n q fn fl) n (pl5 X n q) (96 + 7 * fl + 4) (1 : Int32) (50 : Int32) = 0 then m_rd (xl5 X n q fn fl) n (pl5 X n q) (96 + 7 * fl + 4) (1 : Int32) (50 : Int32) else (pr_up (pr_up (xl6 X n q fn fl) 3 (96 + 7 * fl + 5) (1 : Int32)) 3 7 (nI (fl + 1)))) := rfl
end STM
