/-! THE START: the static arrays -/
def st_W : List Cond := flatC (Jvm.Cond.and given_1 narrow_1)
section STS
variable {s : State} {args : Array Value} {A : Nat → Prop}
theorem st_s0 (hts : ∀ w ∈ lw_tbl, w.before args s = true) (hq : ∀ c ∈ st_W, c.before args s = true) (hA : ∀ a : Nat, a < s.heap.size → ¬ A a) : ∃ t : Nat, va_Z RX7 "USUAL_SETTING" "[I" (.ref t) A s s.heap ∧ va_T .int t 5 (fun j => .int (pr_sv 0 j)) A s s.heap := by
  obtain ⟨t, e, hT⟩ := va_Tof (N := 5) (tm := .static RX7 "USUAL_SETTING" "[I") (ty := .int) (f := fun j => .int (pr_sv 0 j)) (A := A) (by decide) (hq _ (by decide +kernel)) (va_eqt (hq _ (by decide +kernel))) (fun j hj => by
    rcases (by omega : j = 0 ∨ j = 1 ∨ j = 2 ∨ j = 3 ∨ j = 4) with rfl | rfl | rfl | rfl | rfl
    · exact va_eqt (hq _ (by decide +kernel))
    · exact va_eqt (hq _ (by decide +kernel))
    · exact va_eqt (hq _ (by decide +kernel))
    · exact va_eqt (hq _ (by decide +kernel))
    · exact va_eqt (hq _ (by decide +kernel))) hA
  exact ⟨t, va_Zof (hts _ (by decide +kernel)) (hts _ (by decide +kernel)) e hA, hT⟩
theorem st_s1 (hts : ∀ w ∈ lw_tbl, w.before args s = true) (hq : ∀ c ∈ st_W, c.before args s = true) (hA : ∀ a : Nat, a < s.heap.size → ¬ A a) : ∃ t : Nat, va_Z RX7 "LEAST_SETTING" "[I" (.ref t) A s s.heap ∧ va_T .int t 5 (fun j => .int (pr_sv 1 j)) A s s.heap := by
  obtain ⟨t, e, hT⟩ := va_Tof (N := 5) (tm := .static RX7 "LEAST_SETTING" "[I") (ty := .int) (f := fun j => .int (pr_sv 1 j)) (A := A) (by decide) (hq _ (by decide +kernel)) (va_eqt (hq _ (by decide +kernel))) (fun j hj => by
    rcases (by omega : j = 0 ∨ j = 1 ∨ j = 2 ∨ j = 3 ∨ j = 4) with rfl | rfl | rfl | rfl | rfl
    · exact va_eqt (hq _ (by decide +kernel))
    · exact va_eqt (hq _ (by decide +kernel))
    · exact va_eqt (hq _ (by decide +kernel))
    · exact va_eqt (hq _ (by decide +kernel))
    · exact va_eqt (hq _ (by decide +kernel))) hA
  exact ⟨t, va_Zof (hts _ (by decide +kernel)) (hts _ (by decide +kernel)) e hA, hT⟩
theorem st_s2 (hts : ∀ w ∈ lw_tbl, w.before args s = true) (hq : ∀ c ∈ st_W, c.before args s = true) (hA : ∀ a : Nat, a < s.heap.size → ¬ A a) : ∃ t : Nat, va_Z RX7 "GREATEST_SETTING" "[I" (.ref t) A s s.heap ∧ va_T .int t 5 (fun j => .int (pr_sv 2 j)) A s s.heap := by
  obtain ⟨t, e, hT⟩ := va_Tof (N := 5) (tm := .static RX7 "GREATEST_SETTING" "[I") (ty := .int) (f := fun j => .int (pr_sv 2 j)) (A := A) (by decide) (hq _ (by decide +kernel)) (va_eqt (hq _ (by decide +kernel))) (fun j hj => by
    rcases (by omega : j = 0 ∨ j = 1 ∨ j = 2 ∨ j = 3 ∨ j = 4) with rfl | rfl | rfl | rfl | rfl
    · exact va_eqt (hq _ (by decide +kernel))
    · exact va_eqt (hq _ (by decide +kernel))
    · exact va_eqt (hq _ (by decide +kernel))
    · exact va_eqt (hq _ (by decide +kernel))
    · exact va_eqt (hq _ (by decide +kernel))) hA
  exact ⟨t, va_Zof (hts _ (by decide +kernel)) (hts _ (by decide +kernel)) e hA, hT⟩
end STS
