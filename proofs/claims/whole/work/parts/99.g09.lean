/-! THE START: what the tables say of the classes and of the arrays' classes -/
theorem st_arr {s : State} {cA : ClassId} {kA : Class} {comp : ClassId} {ty : FieldType} (h2 : s.vm.classes[cA]? = some kA) (h3 : kA.kind = .array comp ty) : ArrOfT s cA ty := fun n z => ⟨fun k h => (by cases h), kA, h2, comp, h3⟩
theorem st_K {s : State} {args : Array Value} (hts : ∀ w ∈ pr_gw, w.before args s = true) (hAO : pr_AO s) : ∃ (D : va_G) (ca : Nat → ClassId), va_K D vwCl [(ca 20, .int), (ca 21, .long), (ca 22, .byte), (ca 23, .boolean), (ca 24, .array .int), (ca 25, .object RX6)] s := by
  obtain ⟨c0, i0, k0⟩ := u_known hts pr_Cl0.2.2.2.1 (hts _ kA_X0)
  obtain ⟨c1, i1, k1⟩ := u_known hts pr_Cl1.2.2.2.1 (hts _ kA_X1)
  obtain ⟨c2, i2, k2⟩ := u_known hts pr_Cl2.2.2.2.1 (hts _ kA_X2)
  obtain ⟨c3, i3, k3⟩ := u_known hts pr_Cl3.2.2.2.1 (hts _ kA_X3)
  obtain ⟨c4, i4, k4⟩ := u_known hts pr_Cl4.2.2.2.1 (hts _ kA_X4)
  obtain ⟨c5, i5, k5⟩ := u_known hts pr_Cl5.2.2.2.1 (hts _ kA_X5)
  obtain ⟨c6, i6, k6⟩ := u_known hts pr_Cl6.2.2.2.1 (hts _ kA_X6)
  obtain ⟨c7, i7, k7⟩ := u_known hts pr_Cl7.2.2.2.1 (hts _ kA_X7)
  obtain ⟨c8, i8, k8⟩ := u_known hts pr_Cl8.2.2.2.1 (hts _ kA_X8)
  obtain ⟨a0, b0, e0, f0, g0, h0⟩ := Cond.arrayClass_spec (hts _ kY_int)
  obtain ⟨a1, b1, e1, f1, g1, h1⟩ := Cond.arrayClass_spec (hts _ kY_long)
  obtain ⟨a2, b2, e2, f2, g2, h2⟩ := Cond.arrayClass_spec (hts _ kY_byte)
  obtain ⟨a3, b3, e3, f3, g3, h3⟩ := Cond.arrayClass_spec (hts _ kY_boolean)
  obtain ⟨⟨kA, comp, cA, kC, cc, p1, p2, p3, p4, p5, p6⟩, hW⟩ := hAO
  obtain ⟨q1, q2, q3, q4, q5, q6, q7, q8⟩ := Cond.arrayOver_spec (va_AO.use (A := args) hW)
  refine ⟨(fun c => [c0, c1, c2, c3, c4, c5, c6, c7, c8].getD c c0, fun c => [i0, i1, i2, i3, i4, i5, i6, i7, i8].getD c i0), fun c => [a0, a1, a2, a3, cA, q2].getD (c - 20) a0, fun c q hq => ?_, fun k q hq => ?_⟩
  · match c, hq with
    | 0, hq => cases hq; exact k0
    | 1, hq => cases hq; exact k1
    | 2, hq => cases hq; exact k2
    | 3, hq => cases hq; exact k3
    | 4, hq => cases hq; exact k4
    | 5, hq => cases hq; exact k5
    | 6, hq => cases hq; exact k6
    | 7, hq => cases hq; exact k7
    | 8, hq => cases hq; exact k8
    | c + 9, hq => cases hq
  · match k, hq with
    | 0, hq => cases hq; exact ⟨st_arr g0 h0, f0⟩
    | 1, hq => cases hq; exact ⟨st_arr g1 h1, f1⟩
    | 2, hq => cases hq; exact ⟨st_arr g2 h2, f2⟩
    | 3, hq => cases hq; exact ⟨st_arr g3 h3, f3⟩
    | 4, hq => cases hq; exact ⟨st_arr p2 p3, p1⟩
    | 5, hq => cases hq; exact ⟨st_arr q6 q7, _, _, q6, q7, q4, q8⟩
    | k + 6, hq => cases hq
theorem st_AO {s : State} {args : Array Value} (h1 : (Cond.arrayOver (.array .int)).before args s = true) (h2 : (Cond.arrayOver (.object RX6)).before args s = true) (h3 : (Cond.arrayClass .int).before args s = true) : pr_AO s := by
  obtain ⟨comp, c, k, e1, e2, e3, e4, e5⟩ := arrayOverA_spec h1
  obtain ⟨a0, b0, cc0, f0, g0, k0⟩ := Cond.arrayClass_spec h3
  have e : comp = a0 := Option.some.inj (e1.symm.trans f0)
  subst e
  exact ⟨⟨k, comp, c, b0, cc0, e5, e3, e4, e1, g0, k0⟩, va_AO.of h2⟩
/-- the tables' words that the walk uses, and those that it uses beside -/
theorem st_gw {s : State} {args : Array Value} (hts : ∀ w ∈ lw_tbl, w.before args s = true) : ∀ w ∈ pr_gw, w.before args s = true := fun w hw => hts w (List.mem_filter.mp hw).1
theorem st_AOw {s : State} {args : Array Value} (hts : ∀ w ∈ lw_tbl, w.before args s = true) : pr_AO s := st_AO (hts _ (by decide +kernel)) (hts _ (by decide +kernel)) (hts _ (by decide +kernel))
theorem st_nest {s : State} {args : Array Value} (hts : ∀ w ∈ lw_tbl, w.before args s = true) : ∀ w ∈ pr_nest, va_Nw w s := fun w hw => va_Nw.of (pr_nest_tab w hw) (hts w ((by decide +kernel : ∀ w ∈ pr_nest, w ∈ lw_tbl) w hw))
