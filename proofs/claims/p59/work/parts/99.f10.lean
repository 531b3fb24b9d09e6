/-! WHAT WAS MADE IS THE CLASS -/
theorem pr_W.ps {T T' : pr_T} {w x k : Nat} (h : pr_W T w) (p : PS x k T T') (h1 : w + 121 ≤ T.1) (hx : x < w) : pr_W T' w :=
  ⟨fun o ho => (p.2.1 _ (by omega)).trans (h.1 o ho), fun o ho k b hk => by rw [p.2.2.1 _ (by omega) (by omega)]; exact h.2 o ho k b hk⟩
theorem sb_W {T : pr_T} {x k : Nat} (hx : x < T.1) : pr_W (sb T 6 k x tX6_init) T.1 ∧ (sb T 6 k x tX6_init).1 = T.1 + 121 := by
  obtain ⟨h1, h2, h3⟩ := made_W (T := pr_new T 6 0) (w := T.1) rfl (if_pos rfl)
  refine ⟨⟨fun o ho => h1.1 o ho, fun o ho k' b hk => ?_⟩, h2⟩
  rw [(sb_in (T := T) (ci := 6) (k := k) (w := x) (tf := tX6_init)).2 _ (by omega)]
  exact h1.2 o ho k' b hk
theorem made_X7 {T : pr_T} {x : Nat} (hT : T.1 = x + 1) (hax : T.2.1 x = (7, 0)) : pr_X7 (tX7_init T x) x (x + 1) (x + 122) (x + 243) (x + 244) (x + 249) ∧ pr_W (tX7_init T x) (x + 1) ∧ pr_W (tX7_init T x) (x + 122) ∧ (tX7_init T x).2.1 (x + 243) = (25, 2) ∧ (∀ j, (tX7_init T x).2.2 (x + 243) j = none) ∧ pr_Fl (tX7_init T x) (x + 244) ∧ pr_In (tX7_init T x) (x + 249) ∧ (tX7_init T x).1 = x + 251 ∧ PS x 0 T (tX7_init T x) := by
  have hx : x < T.1 := by omega
  obtain ⟨A, hA⟩ : ∃ A, A = sb T 6 0 x tX6_init := ⟨_, rfl⟩
  obtain ⟨B, hB⟩ : ∃ B, B = sb A 6 1 x tX6_init := ⟨_, rfl⟩
  obtain ⟨C, hC⟩ : ∃ C, C = pr_upr (pr_new B 25 2) x 2 (some B.1) := ⟨_, rfl⟩
  obtain ⟨D, hD⟩ : ∃ D, D = sb C 0 3 x tX0_init := ⟨_, rfl⟩
  obtain ⟨E, hE⟩ : ∃ E, E = sb D 1 4 x tX1_init := ⟨_, rfl⟩
  have eE : tX7_init T x = E := by rw [hE, hD, hC, hB, hA]; rfl
  obtain ⟨wA, a1⟩ := sb_W (T := T) (k := 0) hx
  rw [← hA] at wA a1
  rw [hT] at a1 wA
  obtain ⟨wB, b1⟩ := sb_W (T := A) (x := x) (k := 1) (by omega)
  rw [← hB] at wB b1
  rw [a1] at b1 wB
  have kA := kp_X6.sb (T := T) (ci := 6) (k := 0) hx
  rw [← hA] at kA
  have kB := kp_X6.sb (T := A) (ci := 6) (k := 1) (w := x) (by omega)
  rw [← hB] at kB
  have pC : PS x 2 B C := by rw [hC]; exact ps_nw (by omega)
  have c1 : C.1 = x + 244 := by rw [hC]; show B.1 + 1 = _; omega
  have kD := kp_X0.sb (T := C) (ci := 0) (k := 3) (w := x) (by omega)
  rw [← hD] at kD
  have d1 : D.1 = x + 249 := by rw [hD]; show C.1 + 1 + 2 + 2 = _; omega
  have kE := kp_X1.sb (T := D) (ci := 1) (k := 4) (w := x) (by omega)
  rw [← hE] at kE
  have e1 : E.1 = x + 251 := by rw [hE]; show D.1 + 1 + 1 = _; omega
  have qD : PS x 4 D E := kE.1
  have qC : PS x 3 C E := kD.1.trans qD (by decide)
  have qB : PS x 2 B E := pC.trans qC (by decide)
  have qA : PS x 1 A E := kB.1.trans qB (by decide)
  have q0 : PS x 0 T E := kA.1.trans qA (by decide)
  have iD := sb_in (T := C) (ci := 0) (k := 3) (w := x) (tf := tX0_init)
  rw [← hD] at iD
  have iE := sb_in (T := D) (ci := 1) (k := 4) (w := x) (tf := tX1_init)
  rw [← hE] at iE
  rw [eE]
  refine ⟨⟨?_, ?_, ?_, ?_, ?_, ?_⟩, wA.ps qA (by omega) (by omega), wB.ps qB (by omega) (by omega), ?_, fun j => ?_, ⟨?_, ?_, ?_, ?_, ?_, fun k hk => ?_⟩, ⟨?_, ?_, ?_⟩, e1, q0⟩
  · rw [q0.2.1 x hx]; exact hax
  · rw [qA.2.2.2 0 (by decide), kA.2.1, hT]
  · rw [qB.2.2.2 1 (by decide), kB.2.1, a1]
  · rw [qC.2.2.2 2 (by decide), hC]
    refine (if_pos ⟨rfl, rfl⟩).trans ?_
    rw [b1]
  · rw [qD.2.2.2 3 (by decide), kD.2.1, c1]
  · rw [kE.2.1, d1]
  · rw [qC.2.1 _ (by omega), hC]
    exact if_pos (by omega)
  · rw [qC.2.2.1 _ (by omega) (by omega), hC]
    exact (if_neg (fun z => by omega)).trans (if_pos (by omega))
  · rw [qD.2.1 _ (by omega), ← c1]; exact kD.2.2
  · rw [qD.2.1 _ (by omega), iD.1]
    have := (al_cells (T := pr_new C 0 0) (t := 20) (a := C.1) (k := 0) (n := 24) (i := 2) rfl).1 0 (by decide)
    rw [show C.1 + 1 + 0 = x + 244 + 1 by omega] at this
    refine Eq.trans ?_ this
    exact alT_k (T := alT (pr_new C 0 0) 20 C.1 0 24 2) (by show x + 244 + 1 < C.1 + 1 + 2; omega)
  · rw [qD.2.1 _ (by omega), iD.1]
    have := (al_cells (T := pr_new C 0 0) (t := 20) (a := C.1) (k := 0) (n := 24) (i := 2) rfl).1 1 (by decide)
    rw [show C.1 + 1 + 1 = x + 244 + 2 by omega] at this
    refine Eq.trans ?_ this
    exact alT_k (T := alT (pr_new C 0 0) 20 C.1 0 24 2) (by show x + 244 + 2 < C.1 + 1 + 2; omega)
  · rw [qD.2.1 _ (by omega), iD.1]
    have := al_kr (T := alT (pr_new C 0 0) 20 C.1 0 24 2) (t := 20) (a := C.1) (k := 2) (n := 12) (i := 2) (j := 0) (by decide)
    rw [show (alT (pr_new C 0 0) 20 C.1 0 24 2).1 + 0 = x + 244 + 3 by show C.1 + 1 + 2 + 0 = _; omega] at this
    exact this
  · rw [qD.2.1 _ (by omega), iD.1]
    have := al_kr (T := alT (pr_new C 0 0) 20 C.1 0 24 2) (t := 20) (a := C.1) (k := 2) (n := 12) (i := 2) (j := 1) (by decide)
    rw [show (alT (pr_new C 0 0) 20 C.1 0 24 2).1 + 1 = x + 244 + 4 by show C.1 + 1 + 2 + 1 = _; omega] at this
    exact this
  · rw [qD.2.2.1 _ (by omega) (by omega), iD.2 _ (by omega), ← c1]
    by_cases k2 : k < 2
    · refine (al_ra (T := alT (pr_new C 0 0) 20 C.1 0 24 2) (by show C.1 < C.1 + 1 + 2; omega) (Or.inl k2)).trans (((al_cells (T := pr_new C 0 0) (t := 20) (a := C.1) (k := 0) (n := 24) (i := 2) rfl).2 k (by omega) (by omega)).trans ?_)
      congr 1
    · refine (al_r (T := alT (pr_new C 0 0) 20 C.1 0 24 2) (a := C.1) (k := 2) (j := k) (i := 2) (by omega) (by omega)).trans ?_
      show some (C.1 + 1 + 2 + (k - 2)) = _
      congr 1
      omega
  · rw [← d1]; exact kE.2.2
  · rw [iE.1]
    have := (al_cells (T := pr_new D 1 0) (t := 22) (a := D.1) (k := 2) (n := 700) (i := 1) rfl).1 0 (by decide)
    rw [show D.1 + 1 + 0 = x + 249 + 1 by omega] at this
    exact this
  · rw [iE.2 _ (by omega), ← d1]
    refine ((al_cells (T := pr_new D 1 0) (t := 22) (a := D.1) (k := 2) (n := 700) (i := 1) rfl).2 2 (by decide) (by decide)).trans ?_
    congr 1
