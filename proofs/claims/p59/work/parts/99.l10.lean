/-! THE START: what the tables say of the classes and of the arrays' classes -/
theorem st_arr {s : State} {cA : ClassId} {kA : Class} {comp : ClassId} {ty : FieldType} (h2 : s.vm.classes[cA]? = some kA) (h3 : kA.kind = .array comp ty) : ArrOfT s cA ty := fun n z => ⟨fun k h => (by cases h), kA, h2, comp, h3⟩
theorem st_K {s : State} {args : Array Value} (hts : ∀ w ∈ pr_gw, w.before args s = true) (hAO : pr_AO s) : ∃ (D : va_G) (ca : Nat → ClassId), va_K D vwCl [(ca 20, .int), (ca 21, .long), (ca 22, .byte), (ca 23, .byte), (ca 24, .array .int), (ca 25, .object RX6)] s := by
  obtain ⟨c0, i0, k0⟩ := u_known hts pr_Cl0.2.2.2.1 (hts _ kA_X0)
  obtain ⟨c1, i1, k1⟩ := u_known hts pr_Cl1.2.2.2.1 (hts _ kA_X1)
  obtain ⟨c2, i2, k2⟩ := u_known hts pr_Cl2.2.2.2.1 (hts _ kA_X2)
  obtain ⟨c3, i3, k3⟩ := u_known hts pr_Cl3.2.2.2.1 (hts _ kA_X3)
  obtain ⟨c4, i4, k4⟩ := u_known hts pr_Cl4.2.2.2.1 (hts _ kA_X4)
  obtain ⟨c5, i5, k5⟩ := u_known hts pr_Cl5.2.2.2.1 (hts _ kA_X5)
  obtain ⟨c6, i6, k6⟩ := u_known hts pr_Cl6.2.2.2.1 (hts _ kA_X6)
  obtain ⟨c7, i7, k7⟩ := u_known hts pr_Cl7.2.2.2.1 (hts _ kA_X7)
  obtain ⟨c8, i8, k8⟩ := u_known hts jC8.2.2.2.1 (hts _ kA_J4)
  obtain ⟨c9, i9, k9⟩ := u_known hts jC9.2.2.2.1 (hts _ kA_J0)
  obtain ⟨a0, b0, e0, f0, g0, h0⟩ := Cond.arrayClass_spec (hts _ kY_int)
  obtain ⟨a1, b1, e1, f1, g1, h1⟩ := Cond.arrayClass_spec (hts _ kY_long)
  obtain ⟨a2, b2, e2, f2, g2, h2⟩ := Cond.arrayClass_spec (hts _ kY_byte)
  obtain ⟨a3, b3, e3, f3, g3, h3⟩ := Cond.arrayClass_spec (hts _ kY_byte)
  obtain ⟨⟨kA, comp, cA, kC, cc, p1, p2, p3, p4, p5, p6⟩, hW⟩ := hAO
  obtain ⟨q1, q2, q3, q4, q5, q6, q7, q8⟩ := Cond.arrayOver_spec (va_AO.use (A := args) hW)
  refine ⟨(fun c => [c0, c1, c2, c3, c4, c5, c6, c7, c8, c9].getD c c0, fun c => [i0, i1, i2, i3, i4, i5, i6, i7, i8, i9].getD c i0), fun c => [a0, a1, a2, a3, cA, q2].getD (c - 20) a0, fun c q hq => ?_, fun k q hq => ?_⟩
  · match c, hq with
    | 0, hq => cases hq; exact k0
    | 1, hq => cases hq; exact k1
    | 2, hq => cases hq; exact k2
    | 3, hq => cases hq; exact k3
    | 4, hq => cases hq; exact k4
    | 5, hq => cases hq; exact k5
    | 6, hq => cases hq; exact k6
    | 7, hq => cases hq; exact k7
    | 8, hq => cases hq; exact k8
    | 9, hq => cases hq; exact k9
    | c + 10, hq => cases hq
  · match k, hq with
    | 0, hq => cases hq; exact ⟨st_arr g0 h0, f0⟩
    | 1, hq => cases hq; exact ⟨st_arr g1 h1, f1⟩
    | 2, hq => cases hq; exact ⟨st_arr g2 h2, f2⟩
    | 3, hq => cases hq; exact ⟨st_arr g3 h3, f3⟩
    | 4, hq => cases hq; exact ⟨st_arr p2 p3, p1⟩
    | 5, hq => cases hq; exact ⟨st_arr q6 q7, _, _, q6, q7, q4, q8⟩
    | k + 6, hq => cases hq
theorem st_AO {s : State} {args : Array Value} (h1 : (Cond.arrayOver (.array .int)).before args s = true) (h2 : (Cond.arrayOver (.object RX6)).before args s = true) (h3 : (Cond.arrayClass .int).before args s = true) : pr_AO s := by
  obtain ⟨comp, c, k, e1, e2, e3, e4, e5⟩ := arrayOverA_spec h1
  obtain ⟨a0, b0, cc0, f0, g0, k0⟩ := Cond.arrayClass_spec h3
  have e : comp = a0 := Option.some.inj (e1.symm.trans f0)
  subst e
  exact ⟨⟨k, comp, c, b0, cc0, e5, e3, e4, e1, g0, k0⟩, va_AO.of h2⟩
/-- the tables' words that the walk uses, and those that it uses beside -/
theorem st_gw {s : State} {args : Array Value} (hts : ∀ w ∈ lw_tbl, w.before args s = true) : ∀ w ∈ pr_gw, w.before args s = true := fun w hw => hts w (List.mem_filter.mp hw).1
theorem st_AOw {s : State} {args : Array Value} (hts : ∀ w ∈ lw_tbl, w.before args s = true) : pr_AO s := st_AO (hts _ (by decide +kernel)) (hts _ (by decide +kernel)) (hts _ (by decide +kernel))
theorem st_nest {s : State} {args : Array Value} (hts : ∀ w ∈ lw_tbl, w.before args s = true) : ∀ w ∈ pr_nest, va_Nw w s := fun w hw => va_Nw.of (pr_nest_tab w hw) (hts w ((by decide +kernel : ∀ w ∈ pr_nest, w ∈ lw_tbl) w hw))
/-! THE START: the static arrays -/
def st_W : List Cond := flatC (Jvm.Cond.and given_1 narrow_1)
section STS
variable {s : State} {args : Array Value} {A : Nat → Prop}
theorem st_s0 (hts : ∀ w ∈ lw_tbl, w.before args s = true) (hq : ∀ c ∈ st_W, c.before args s = true) (hA : ∀ a : Nat, a < s.heap.size → ¬ A a) : ∃ t : Nat, va_Z RX7 "USUAL_SETTING" "[I" (.ref t) A s s.heap ∧ va_T .int t 5 (fun j => .int (pr_sv 0 j)) A s s.heap := by
  obtain ⟨t, e, hT⟩ := va_Tof (N := 5) (tm := .static RX7 "USUAL_SETTING" "[I") (ty := .int) (f := fun j => .int (pr_sv 0 j)) (A := A) (by decide) (hq _ (by decide +kernel)) (va_eqt (hq _ (by decide +kernel))) (fun j hj => by
    rcases (by omega : j = 0 ∨ j = 1 ∨ j = 2 ∨ j = 3 ∨ j = 4) with rfl | rfl | rfl | rfl | rfl
    · exact va_eqt (hq _ (by decide +kernel))
    · exact va_eqt (hq _ (by decide +kernel))
    · exact va_eqt (hq _ (by decide +kernel))
    · exact va_eqt (hq _ (by decide +kernel))
    · exact va_eqt (hq _ (by decide +kernel))) hA
  exact ⟨t, va_Zof (hts _ (by decide +kernel)) (hts _ (by decide +kernel)) e hA, hT⟩
theorem st_s1 (hts : ∀ w ∈ lw_tbl, w.before args s = true) (hq : ∀ c ∈ st_W, c.before args s = true) (hA : ∀ a : Nat, a < s.heap.size → ¬ A a) : ∃ t : Nat, va_Z RX7 "LEAST_SETTING" "[I" (.ref t) A s s.heap ∧ va_T .int t 5 (fun j => .int (pr_sv 1 j)) A s s.heap := by
  obtain ⟨t, e, hT⟩ := va_Tof (N := 5) (tm := .static RX7 "LEAST_SETTING" "[I") (ty := .int) (f := fun j => .int (pr_sv 1 j)) (A := A) (by decide) (hq _ (by decide +kernel)) (va_eqt (hq _ (by decide +kernel))) (fun j hj => by
    rcases (by omega : j = 0 ∨ j = 1 ∨ j = 2 ∨ j = 3 ∨ j = 4) with rfl | rfl | rfl | rfl | rfl
    · exact va_eqt (hq _ (by decide +kernel))
    · exact va_eqt (hq _ (by decide +kernel))
    · exact va_eqt (hq _ (by decide +kernel))
    · exact va_eqt (hq _ (by decide +kernel))
    · exact va_eqt (hq _ (by decide +kernel))) hA
  exact ⟨t, va_Zof (hts _ (by decide +kernel)) (hts _ (by decide +kernel)) e hA, hT⟩
theorem st_s2 (hts : ∀ w ∈ lw_tbl, w.before args s = true) (hq : ∀ c ∈ st_W, c.before args s = true) (hA : ∀ a : Nat, a < s.heap.size → ¬ A a) : ∃ t : Nat, va_Z RX7 "GREATEST_SETTING" "[I" (.ref t) A s s.heap ∧ va_T .int t 5 (fun j => .int (pr_sv 2 j)) A s s.heap := by
  obtain ⟨t, e, hT⟩ := va_Tof (N := 5) (tm := .static RX7 "GREATEST_SETTING" "[I") (ty := .int) (f := fun j => .int (pr_sv 2 j)) (A := A) (by decide) (hq _ (by decide +kernel)) (va_eqt (hq _ (by decide +kernel))) (fun j hj => by
    rcases (by omega : j = 0 ∨ j = 1 ∨ j = 2 ∨ j = 3 ∨ j = 4) with rfl | rfl | rfl | rfl | rfl
    · exact va_eqt (hq _ (by decide +kernel))
    · exact va_eqt (hq _ (by decide +kernel))
    · exact va_eqt (hq _ (by decide +kernel))
    · exact va_eqt (hq _ (by decide +kernel))
    · exact va_eqt (hq _ (by decide +kernel))) hA
  exact ⟨t, va_Zof (hts _ (by decide +kernel)) (hts _ (by decide +kernel)) e hA, hT⟩
end STS
/-! THE START: the other statics, and what can't be cast -/
section STT
variable {s : State} {args : Array Value} {A : Nat → Prop}
theorem st_z (hts : ∀ w ∈ lw_tbl, w.before args s = true) (hq : ∀ c ∈ st_W, c.before args s = true) (hA : ∀ a : Nat, a < s.heap.size → ¬ A a) :
    vx_Zq Bundle.tN "UNASSIGNED_STACK" Bundle.steD A s s.heap ∧ vx_Zq Bundle.tN "SUPPRESSED_SENTINEL" Bundle.listD A s s.heap ∧
    va_Z "java/lang/String" "COMPACT_STRINGS" "Z" (.int 1) A s s.heap ∧ va_Zq "jdk/internal/util/Preconditions" "SIOOBE_FORMATTER" "Ljava/util/function/BiFunction;" A s s.heap :=
  ⟨vx_Zqof (hts _ (by decide +kernel)) (hts _ (by decide +kernel)) (hq _ (by decide +kernel)) hA,
   vx_Zqof (hts _ (by decide +kernel)) (hts _ (by decide +kernel)) (hq _ (by decide +kernel)) hA,
   va_Zof (hts _ (by decide +kernel)) (hts _ (by decide +kernel)) (va_eqi (hq _ (by decide +kernel))) hA,
   va_Zqof (hts _ (by decide +kernel)) (hts _ (by decide +kernel)) (hq _ (by decide +kernel)) hA⟩
end STT
/-! THE START: the string constants -/
def st_tm (i : Nat) : Term := .string RX1 (([57, 67, 90, 92, 94, 96, 98] : List Nat).getD i 0)
section STR
variable {s : State} {args : Array Value} {A : Nat → Prop}
theorem st_str (hq : ∀ c ∈ st_W, c.before args s = true) (hA : ∀ a : Nat, a < s.heap.size → ¬ A a) : ∃ adK adV : Nat → Nat, vk_S 7 pr_slen pr_sbyt adK adV A s s.heap ∧ ∀ i : Nat, i < 7 → (st_tm i).eval args s none [] s = some (.ref (adK i)) :=
  vk_Sof (N := 7) (tm := st_tm) (len := pr_slen) (byt := pr_sbyt) (by decide)
    (fun i hi => hq _ ((by decide +kernel : ∀ i, i < 7 → Cond.exactly (st_tm i) "java/lang/String" ∈ st_W) i hi))
    (fun i hi => hq _ ((by decide +kernel : ∀ i, i < 7 → Cond.eq (.field (st_tm i) "java/lang/String" "coder" "B") (.int 0) ∈ st_W) i hi))
    (fun i hi => hq _ ((by decide +kernel : ∀ i, i < 7 → Cond.arrayOf (.field (st_tm i) "java/lang/String" "value" "[B") .byte ∈ st_W) i hi))
    (fun i hi => hq _ ((by decide +kernel : ∀ i, i < 7 → Cond.eq (.length (.field (st_tm i) "java/lang/String" "value" "[B")) (.int (Int32.ofNat (pr_slen.getD i 0))) ∈ st_W) i hi))
    (fun i hi j hj => hq _ ((by decide +kernel : ∀ i, i < 7 → ∀ j, j < pr_slen.getD i 0 → Cond.eq (.elem (.field (st_tm i) "java/lang/String" "value" "[B") (.int (Int32.ofNat j))) (.int ((pr_sbyt.getD i []).getD j 0)) ∈ st_W) i hi j hj))
    (fun i j hi hj hij => ((by decide +kernel : ∀ i, i < 7 → ∀ j, j < 7 → i ≠ j → Cond.not (Cond.eq (st_tm i) (st_tm j)) ∈ st_W ∨ Cond.not (Cond.eq (st_tm j) (st_tm i)) ∈ st_W) i hi j hj hij).imp (hq _) (hq _))
    hA
end STR
/-! THE START: the law's own strings, the digits, the script -/
def st_ln (i : Nat) : Term := .string RL (([35, 49, 51, 53, 62, 67] : List Nat).getD i 0)
section STL
variable {s : State} {args : Array Value} {A : Nat → Prop}
theorem st_lstr (hq : ∀ c ∈ st_W, c.before args s = true) (hA : ∀ a : Nat, a < s.heap.size → ¬ A a) : ∃ adK adV : Nat → Nat, vk_S 6 pr_llen pr_lbyt adK adV A s s.heap ∧ ∀ i : Nat, i < 6 → (st_ln i).eval args s none [] s = some (.ref (adK i)) :=
  vk_Sof (N := 6) (tm := st_ln) (len := pr_llen) (byt := pr_lbyt) (by decide)
    (fun i hi => hq _ ((by decide +kernel : ∀ i, i < 6 → Cond.exactly (st_ln i) "java/lang/String" ∈ st_W) i hi))
    (fun i hi => hq _ ((by decide +kernel : ∀ i, i < 6 → Cond.eq (.field (st_ln i) "java/lang/String" "coder" "B") (.int 0) ∈ st_W) i hi))
    (fun i hi => hq _ ((by decide +kernel : ∀ i, i < 6 → Cond.arrayOf (.field (st_ln i) "java/lang/String" "value" "[B") .byte ∈ st_W) i hi))
    (fun i hi => hq _ ((by decide +kernel : ∀ i, i < 6 → Cond.eq (.length (.field (st_ln i) "java/lang/String" "value" "[B")) (.int (Int32.ofNat (pr_llen.getD i 0))) ∈ st_W) i hi))
    (fun i hi j hj => hq _ ((by decide +kernel : ∀ i, i < 6 → ∀ j, j < pr_llen.getD i 0 → Cond.eq (.elem (.field (st_ln i) "java/lang/String" "value" "[B") (.int (Int32.ofNat j))) (.int ((pr_lbyt.getD i []).getD j 0)) ∈ st_W) i hi j hj))
    (fun i j hi hj hij => ((by decide +kernel : ∀ i, i < 6 → ∀ j, j < 6 → i ≠ j → Cond.not (Cond.eq (st_ln i) (st_ln j)) ∈ st_W ∨ Cond.not (Cond.eq (st_ln j) (st_ln i)) ∈ st_W) i hi j hj hij).imp (hq _) (hq _))
    hA
def st_de (i j : Nat) : Cond := Cond.eq (.elem (.static RJ6 (pr_dn i) "[B") (.int (Int32.ofNat j))) (.int (pr_dg i j))
theorem st_dl : ∀ i, i < 2 → (st_W.drop (38 + 103 * i)).take 100 = (List.range 100).map (st_de i) := by decide +kernel
theorem st_dm {i j : Nat} (hi : i < 2) (hj : j < 100) : st_de i j ∈ st_W :=
  List.mem_of_mem_drop (List.mem_of_mem_take (by rw [st_dl i hi]; exact List.mem_map.mpr ⟨j, List.mem_range.mpr hj, rfl⟩))
theorem st_dig (hts : ∀ w ∈ lw_tbl, w.before args s = true) (hq : ∀ c ∈ st_W, c.before args s = true) (hA : ∀ a : Nat, a < s.heap.size → ¬ A a) (i : Nat) (hi : i < 2) : ∃ t : Nat, va_Z RJ6 (pr_dn i) "[B" (.ref t) A s s.heap ∧ va_T .byte t 100 (fun j => .int (pr_dg i j)) A s s.heap := by
  obtain ⟨t, e, hT⟩ := va_Tof (N := 100) (tm := .static RJ6 (pr_dn i) "[B") (ty := .byte) (f := fun j => .int (pr_dg i j)) (A := A) (by decide) (hq _ ((by decide +kernel : ∀ i, i < 2 → Cond.arrayOf (.static RJ6 (pr_dn i) "[B") .byte ∈ st_W) i hi)) (va_eqt (hq _ ((by decide +kernel : ∀ i, i < 2 → Cond.eq (.length (.static RJ6 (pr_dn i) "[B")) (.int (Int32.ofNat 100)) ∈ st_W) i hi))) (fun j hj => va_eqt (hq _ (st_dm hi hj))) hA
  rcases (by omega : i = 0 ∨ i = 1) with rfl | rfl
  · exact ⟨t, va_Zof (hts _ (by decide +kernel)) (hts _ (by decide +kernel)) e hA, hT⟩
  · exact ⟨t, va_Zof (hts _ (by decide +kernel)) (hts _ (by decide +kernel)) e hA, hT⟩
theorem st_prv (hts : ∀ w ∈ lw_tbl, w.before args s = true) : ∀ y ∈ pr_prv, (Cond.privateMethod y).before #[] s = true := fun y hy => hts (Cond.privateMethod y) ((by decide +kernel : ∀ y ∈ pr_prv, Cond.privateMethod y ∈ lw_tbl) y hy)
end STL
theorem ofN_32 (x : Int32) : Int32.ofNat x.toBitVec.toNat = x := by
  apply Int32.toBitVec_inj.mp
  show BitVec.ofNat 32 x.toBitVec.toNat = x.toBitVec
  simp
