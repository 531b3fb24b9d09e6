/-! THE START: string constants, statics, classes put together -/
section STU
variable {s : State} {args : Array Value} {A : Nat → Prop}
theorem st_msg (hq : ∀ c ∈ st_W, c.before args s = true) {own : String} {k : Nat} (h : Cond.exactly (.string own k) "java/lang/String" ∈ st_W) : ∃ a : Nat, (Term.string own k).eval args s none [] s = some (.ref a) := by
  obtain ⟨a, c, cA, kA, q1, -⟩ := Cond.exactly_spec (args := args) (first := s) (o := none) (s := s) (idx := []) (t := .string own k) (cls := "java/lang/String") (hq _ h)
  exact ⟨a, q1⟩
theorem st_vkS {N : Nat} {len : List Nat} {byt : List (List Int32)} {k k' v : Nat → Nat} {U : State} {H : Heap} (h : vk_S N len byt k v A U H) (e : ∀ i, i < N → k' i = k i) : vk_S N len byt k' v A U H := by
  obtain ⟨h1, h2⟩ := h
  refine ⟨fun i hi => ?_, fun i j hi hj hij => ?_⟩
  · rw [e i hi]; exact h1 i hi
  · exact h2 i j hi hj ((e i hi).symm.trans (hij.trans (e j hj)))
theorem st_R (hts : ∀ w ∈ lw_tbl, w.before args s = true) (hq : ∀ c ∈ st_W, c.before args s = true) (hA : ∀ a : Nat, a < s.heap.size → ¬ A a) : ∃ ak av : Nat → Nat, vk_S 7 pr_slen pr_sbyt ak av A s s.heap ∧ ∀ q ∈ pr_strs, vk_R q.1 q.2.1 q.2.2.1 (ak q.2.2.2) s := by
  obtain ⟨k, v, hS, hE⟩ := st_str (args := args) hq hA
  obtain ⟨m7, e7⟩ := st_msg hq (own := RX7) (k := 273) (by decide +kernel)
  obtain ⟨m8, e8⟩ := st_msg hq (own := RX7) (k := 280) (by decide +kernel)
  obtain ⟨m9, e9⟩ := st_msg hq (own := RX7) (k := 283) (by decide +kernel)
  refine ⟨fun i => if i = 7 then m7 else if i = 8 then m8 else if i = 9 then m9 else k i, v, st_vkS hS (fun i hi => by rw [if_neg (by omega), if_neg (by omega), if_neg (by omega)]), ?_⟩
  have mem : ∀ q ∈ pr_strs, Cond.stringRef q.1 q.2.1 q.2.2.1 ∈ lw_tbl := by decide +kernel
  have ev : ∀ q ∈ pr_strs, (Term.string q.1 q.2.1).eval args s none [] s = some (.ref (if q.2.2.2 = 7 then m7 else if q.2.2.2 = 8 then m8 else if q.2.2.2 = 9 then m9 else k q.2.2.2)) := by
    intro q h
    simp only [pr_strs, List.mem_cons, List.not_mem_nil, or_false] at h
    rcases h with rfl | rfl | rfl | rfl | rfl | rfl | rfl | rfl | rfl | rfl | rfl | rfl | rfl | rfl | rfl | rfl | rfl
    · exact hE 0 (by decide)
    · exact hE 1 (by decide)
    · exact hE 2 (by decide)
    · exact hE 3 (by decide)
    · exact hE 4 (by decide)
    · exact hE 5 (by decide)
    · exact hE 6 (by decide)
    · exact va_eqR (hq (Cond.eq (.string RX1 57) (.string RX8 160)) (by decide +kernel)) (hE 0 (by decide))
    · exact va_eqR (hq (Cond.eq (.string RX1 67) (.string RX8 169)) (by decide +kernel)) (hE 1 (by decide))
    · exact va_eqR (hq (Cond.eq (.string RX1 90) (.string RX8 174)) (by decide +kernel)) (hE 2 (by decide))
    · exact va_eqR (hq (Cond.eq (.string RX1 92) (.string RX8 179)) (by decide +kernel)) (hE 3 (by decide))
    · exact va_eqR (hq (Cond.eq (.string RX1 94) (.string RX8 181)) (by decide +kernel)) (hE 4 (by decide))
    · exact va_eqR (hq (Cond.eq (.string RX1 96) (.string RX8 183)) (by decide +kernel)) (hE 5 (by decide))
    · exact va_eqR (hq (Cond.eq (.string RX1 98) (.string RX8 185)) (by decide +kernel)) (hE 6 (by decide))
    · exact e7
    · exact e8
    · exact e9
  exact fun q h => vk_R.of (hts _ (mem q h)) (ev q h)
/-- all that the walk's standing facts ask at the start -/
theorem st_SF (hts : ∀ w ∈ lw_tbl, w.before args s = true) (hq : ∀ c ∈ st_W, c.before args s = true) : ∃ g : pr_C, pr_z g = s.heap.size ∧ va_K (pr_D g) vwCl (pr_tys g) s ∧ pr_SF g s s.heap := by
  have hA : ∀ a : Nat, a < s.heap.size → ¬ s.heap.size ≤ a := fun a h => Nat.not_le_of_lt h
  obtain ⟨D, ca, hK⟩ := st_K (st_gw hts) (st_AOw hts)
  obtain ⟨t0, z0, T0⟩ := st_s0 (A := fun q => s.heap.size ≤ q) hts hq hA
  obtain ⟨t1, z1, T1⟩ := st_s1 (A := fun q => s.heap.size ≤ q) hts hq hA
  obtain ⟨t2, z2, T2⟩ := st_s2 (A := fun q => s.heap.size ≤ q) hts hq hA
  obtain ⟨ak, av, hS, hR⟩ := st_R (A := fun q => s.heap.size ≤ q) hts hq hA
  obtain ⟨u1, u2, u3, u4, u5⟩ := st_z (A := fun q => s.heap.size ≤ q) hts hq hA
  refine ⟨(s.heap.size, D, ca, fun i => [t0, t1, t2].getD i t0, ak, av), rfl, hK, fun i hi => ?_, hS, hR, u1, u2, u3, u4, u5, st_nest hts, st_AOw hts⟩
  match i, hi with
  | 0, _ => exact ⟨z0, T0⟩
  | 1, _ => exact ⟨z1, T1⟩
  | 2, _ => exact ⟨z2, T2⟩
  | i + 3, hi => exact absurd hi (by omega)
end STU
