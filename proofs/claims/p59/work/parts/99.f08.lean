/-! WHAT WAS MADE IS A WORLD: all its cells -/
theorem made_W {T : pr_T} {w : Nat} (hT : T.1 = w + 1) (haw : T.2.1 w = (6, 0)) : pr_W (tX6_init T w) w ∧ (tX6_init T w).1 = w + 121 ∧ PS w 0 T (tX6_init T w) := by
  have hw : w < T.1 := by omega
  obtain ⟨p0, p1, p2, p3⟩ := w_ps (T := T) (w := w) hw
  obtain ⟨A, hA⟩ : ∃ A, A = sb T 2 0 w tX2_init := ⟨_, rfl⟩
  rw [← hA] at p0 p1 p2 p3
  obtain ⟨B, hB⟩ : ∃ B, B = sb A 5 1 w tX5_init := ⟨_, rfl⟩
  rw [← hB] at p1 p2 p3
  obtain ⟨C, hC⟩ : ∃ C, C = sb B 4 2 w tX4_init := ⟨_, rfl⟩
  rw [← hC] at p2 p3
  obtain ⟨D, hD⟩ : ∃ D, D = sb C 3 3 w tX3_init := ⟨_, rfl⟩
  rw [← hD] at p3
  obtain ⟨E, hE⟩ : ∃ E, E = alT D 20 w 4 5 1 := ⟨_, rfl⟩
  have a1 : A.1 = w + 9 := by rw [hA]; show T.1 + 1 + 7 = w + 9; omega
  have b1 : B.1 = w + 18 := by rw [hB]; show A.1 + 1 + 8 = w + 18; omega
  have c1 : C.1 = w + 116 := by rw [hC]; show B.1 + 1 + 15 + 1 + 40 + 1 + 40 = w + 116; omega
  have d1 : D.1 = w + 119 := by rw [hD]; show C.1 + 1 + 1 + 1 = w + 119; omega
  have e1 : E.1 = w + 120 := by rw [hE]; show D.1 + 1 = w + 120; omega
  obtain ⟨F, hF⟩ : ∃ F, F = pr_upr (pr_new E 21 12) w 5 (some (w + 120)) := ⟨_, rfl⟩
  have eF : tX6_init T w = F := by
    rw [hF, hE, hD, hC, hB, hA]
    unfold tX6_init
    rw [show T.1 + 119 = w + 120 by omega]
  have f1 : F.1 = w + 121 := by rw [hF]; show E.1 + 1 = w + 121; omega
  have p4 : PS w 4 D E := by rw [hE]; exact ps_al (by omega)
  have p5 : PS w 5 E F := by rw [hF]; exact ps_nw (by omega)
  have qD : PS w 4 D F := p4.trans p5 (by decide)
  have qC : PS w 3 C F := p3.trans qD (by decide)
  have qB : PS w 2 B F := p2.trans qC (by decide)
  have qA : PS w 1 A F := p1.trans qB (by decide)
  have q0 : PS w 0 T F := p0.trans qA (by decide)
  rw [eF]
  -- the parts
  have kA := kp_X2.sb (T := T) (ci := 2) (k := 0) (w := w) hw
  rw [← hA] at kA
  have kB := kp_X5.sb (T := A) (ci := 5) (k := 1) (w := w) (by omega)
  rw [← hB] at kB
  have kC := kp_X4.sb (T := B) (ci := 4) (k := 2) (w := w) (by omega)
  rw [← hC] at kC
  have kD := kp_X3.sb (T := C) (ci := 3) (k := 3) (w := w) (by omega)
  rw [← hD] at kD
  have nA := al_cells (T := pr_new T 2 0) (t := 20) (a := T.1) (k := 0) (n := 24) (i := 7) rfl
  have nB := al_cells (T := pr_new A 5 0) (t := 20) (a := A.1) (k := 0) (n := 500) (i := 8) rfl
  have nC := x4_cells (T := pr_new B 4 0) (a := B.1) rfl
  have nD := al_cells (T := pr_new C 3 0) (t := 20) (a := C.1) (k := 0) (n := 11) (i := 1) rfl
  have iA := sb_in (T := T) (ci := 2) (k := 0) (w := w) (tf := tX2_init)
  rw [← hA] at iA
  have iB := sb_in (T := A) (ci := 5) (k := 1) (w := w) (tf := tX5_init)
  rw [← hB] at iB
  have iC := sb_in (T := B) (ci := 4) (k := 2) (w := w) (tf := tX4_init)
  rw [← hC] at iC
  have iD := sb_in (T := C) (ci := 3) (k := 3) (w := w) (tf := tX3_init)
  rw [← hD] at iD
  refine ⟨⟨fun o ho => ?_, fun o ho k b hk => ?_⟩, f1, q0⟩
  · rcases (by omega : o = 0 ∨ o = 1 ∨ (2 ≤ o ∧ o < 9) ∨ o = 9 ∨ (10 ≤ o ∧ o < 18) ∨ o = 18 ∨ (19 ≤ o ∧ o < 34) ∨ o = 34 ∨ (35 ≤ o ∧ o < 75) ∨ o = 75 ∨ (76 ≤ o ∧ o < 116) ∨ o = 116 ∨ o = 117 ∨ o = 118 ∨ o = 119 ∨ o = 120) with h | h | h | h | h | h | h | h | h | h | h | h | h | h | h | h
    · subst h; rw [Nat.add_zero, q0.2.1 w hw]; exact haw
    · subst h; rw [qA.2.1 _ (by omega), ← hT]; exact kA.2.2
    · rw [qA.2.1 _ (by omega), iA.1]
      have := nA.1 (o - 2) (by omega)
      rw [show T.1 + 1 + (o - 2) = w + o by omega] at this
      refine this.trans ?_
      unfold wl_K
      rw [if_neg (by omega), if_neg (by omega), if_pos (by omega)]
    · subst h; rw [qB.2.1 _ (by omega), ← a1]; exact kB.2.2
    · rw [qB.2.1 _ (by omega), iB.1]
      have := nB.1 (o - 10) (by omega)
      rw [show A.1 + 1 + (o - 10) = w + o by omega] at this
      refine this.trans ?_
      unfold wl_K
      rw [if_neg (by omega), if_neg (by omega), if_neg (by omega), if_neg (by omega), if_pos (by omega)]
    · subst h; rw [qC.2.1 _ (by omega), ← b1]; exact kC.2.2
    · rw [qC.2.1 _ (by omega), iC.1]
      have := nC.1 (o - 19) (by omega)
      rw [show B.1 + 1 + (o - 19) = w + o by omega] at this
      refine this.trans ?_
      unfold wl_K
      rw [if_neg (by omega), if_neg (by omega), if_neg (by omega), if_neg (by omega), if_neg (by omega), if_neg (by omega), if_pos (by omega)]
    · subst h; rw [qC.2.1 _ (by omega), iC.1]
      have := nC.2.1
      rw [show B.1 + 16 = w + 34 by omega] at this
      exact this
    · rw [qC.2.1 _ (by omega), iC.1]
      have := nC.2.2.1 (o - 35) (by omega)
      rw [show B.1 + 17 + (o - 35) = w + o by omega] at this
      refine this.trans ?_
      unfold wl_K
      rw [if_neg (by omega), if_neg (by omega), if_neg (by omega), if_neg (by omega), if_neg (by omega), if_neg (by omega), if_neg (by omega), if_neg (by omega), if_pos (by omega)]
    · subst h; rw [qC.2.1 _ (by omega), iC.1]
      have := nC.2.2.2.1
      rw [show B.1 + 57 = w + 75 by omega] at this
      exact this
    · rw [qC.2.1 _ (by omega), iC.1]
      have := nC.2.2.2.2.1 (o - 76) (by omega)
      rw [show B.1 + 58 + (o - 76) = w + o by omega] at this
      refine this.trans ?_
      unfold wl_K
      rw [if_neg (by omega), if_neg (by omega), if_neg (by omega), if_neg (by omega), if_neg (by omega), if_neg (by omega), if_neg (by omega), if_neg (by omega), if_neg (by omega), if_neg (by omega), if_pos (by omega)]
    · subst h; rw [qD.2.1 _ (by omega), ← c1]; exact kD.2.2
    · subst h; rw [qD.2.1 _ (by omega), iD.1]
      have := nD.1 0 (by decide)
      rw [show C.1 + 1 + 0 = w + 117 by omega] at this
      refine Eq.trans ?_ this
      exact alT_k (T := alT (pr_new C 3 0) 20 C.1 0 11 1) (by show w + 117 < C.1 + 1 + 1; omega)
    · subst h; rw [qD.2.1 _ (by omega), iD.1]
      have := al_kr (T := alT (pr_new C 3 0) 20 C.1 0 11 1) (t := 20) (a := C.1) (k := 2) (n := 12) (i := 1) (j := 0) (by decide)
      rw [show (alT (pr_new C 3 0) 20 C.1 0 11 1).1 + 0 = w + 118 by show C.1 + 1 + 1 + 0 = w + 118; omega] at this
      exact this
    · subst h; rw [p5.2.1 _ (by omega), hE]
      have := al_kr (T := D) (t := 20) (a := w) (k := 4) (n := 5) (i := 1) (j := 0) (by decide)
      rw [show D.1 + 0 = w + 119 by omega] at this
      exact this
    · subst h; rw [hF]
      exact if_pos (by omega)
  · unfold wl_R at hk
    by_cases o0 : o = 0
    · subst o0
      rw [if_pos rfl] at hk
      rw [Nat.add_zero]
      by_cases k0 : k = 0
      · subst k0; rw [if_pos rfl] at hk; cases hk
        rw [qA.2.2.2 0 (by decide), kA.2.1, hT]
      rw [if_neg k0] at hk
      by_cases k1 : k = 1
      · subst k1; rw [if_pos rfl] at hk; cases hk
        rw [qB.2.2.2 1 (by decide), kB.2.1, a1]
      rw [if_neg k1] at hk
      by_cases k2 : k = 2
      · subst k2; rw [if_pos rfl] at hk; cases hk
        rw [qC.2.2.2 2 (by decide), kC.2.1, b1]
      rw [if_neg k2] at hk
      by_cases k3 : k = 3
      · subst k3; rw [if_pos rfl] at hk; cases hk
        rw [qD.2.2.2 3 (by decide), kD.2.1, c1]
      rw [if_neg k3] at hk
      by_cases k4 : k = 4
      · subst k4; rw [if_pos rfl] at hk; cases hk
        rw [p5.2.2.2 4 (by decide), hE, al_r (by decide) (by decide), d1]
      rw [if_neg k4] at hk
      by_cases k5 : k = 5
      · subst k5; rw [if_pos rfl] at hk; cases hk
        rw [hF]; exact if_pos ⟨rfl, rfl⟩
      rw [if_neg k5] at hk; cases hk
    rw [if_neg o0] at hk
    by_cases o1 : o = 1
    · subst o1
      rw [if_pos rfl] at hk
      by_cases kk : k < 7
      · rw [if_pos kk] at hk; cases hk
        rw [qA.2.2.1 _ (by omega) (by omega), iA.2 _ (by omega), ← hT]
        refine (nA.2 k (by omega) (by omega)).trans ?_
        congr 1; omega
      · rw [if_neg kk] at hk; cases hk
    rw [if_neg o1] at hk
    by_cases o9 : o = 9
    · subst o9
      rw [if_pos rfl] at hk
      by_cases kk : k < 8
      · rw [if_pos kk] at hk; cases hk
        rw [qB.2.2.1 _ (by omega) (by omega), iB.2 _ (by omega), ← a1]
        refine (nB.2 k (by omega) (by omega)).trans ?_
        congr 1; omega
      · rw [if_neg kk] at hk; cases hk
    rw [if_neg o9] at hk
    by_cases o18 : o = 18
    · subst o18
      rw [if_pos rfl] at hk
      rw [qC.2.2.1 _ (by omega) (by omega), iC.2 _ (by omega), ← b1]
      by_cases kk : k < 15
      · rw [if_pos kk] at hk; cases hk
        refine (nC.2.2.2.2.2.1 k kk).trans ?_
        congr 1; omega
      rw [if_neg kk] at hk
      by_cases k15 : k = 15
      · subst k15; rw [if_pos rfl] at hk; cases hk
        refine nC.2.2.2.2.2.2.1.trans ?_
        congr 1; omega
      rw [if_neg k15] at hk
      by_cases k16 : k = 16
      · subst k16; rw [if_pos rfl] at hk; cases hk
        refine nC.2.2.2.2.2.2.2.1.trans ?_
        congr 1; omega
      rw [if_neg k16] at hk; cases hk
    rw [if_neg o18] at hk
    by_cases o34 : o = 34
    · subst o34
      rw [if_pos rfl] at hk
      by_cases kk : k < 40
      · rw [if_pos kk] at hk; cases hk
        rw [qC.2.2.1 _ (by omega) (by omega), iC.2 _ (by omega), show w + 34 = B.1 + 16 by omega]
        refine (nC.2.2.2.2.2.2.2.2.1 k kk).trans ?_
        congr 1; omega
      · rw [if_neg kk] at hk; cases hk
    rw [if_neg o34] at hk
    by_cases o75 : o = 75
    · subst o75
      rw [if_pos rfl] at hk
      by_cases kk : k < 40
      · rw [if_pos kk] at hk; cases hk
        rw [qC.2.2.1 _ (by omega) (by omega), iC.2 _ (by omega), show w + 75 = B.1 + 57 by omega]
        refine (nC.2.2.2.2.2.2.2.2.2 k kk).trans ?_
        congr 1; omega
      · rw [if_neg kk] at hk; cases hk
    rw [if_neg o75] at hk
    by_cases o116 : o = 116
    · subst o116
      rw [if_pos rfl] at hk
      rw [qD.2.2.1 _ (by omega) (by omega), iD.2 _ (by omega), ← c1]
      by_cases k0 : k = 0
      · subst k0; rw [if_pos rfl] at hk; cases hk
        refine (al_ra (T := alT (pr_new C 3 0) 20 C.1 0 11 1) (by show C.1 < C.1 + 1 + 1; omega) (Or.inl (by decide))).trans ((nD.2 0 (by decide) (by decide)).trans ?_)
        congr 1; omega
      rw [if_neg k0] at hk
      by_cases k2 : k = 2
      · subst k2; rw [if_pos rfl] at hk; cases hk
        refine (al_r (T := alT (pr_new C 3 0) 20 C.1 0 11 1) (a := C.1) (k := 2) (j := 2) (i := 1) (by decide) (by decide)).trans ?_
        show some (C.1 + 1 + 1 + (2 - 2)) = some (w + 118)
        congr 1; omega
      rw [if_neg k2] at hk; cases hk
    rw [if_neg o116] at hk; cases hk
