/-! THE START: string constants, statics, classes put together -/
section STU
variable {s : State} {args : Array Value} {A : Nat → Prop}
theorem st_msg (hq : ∀ c ∈ st_W, c.before args s = true) {own : String} {k : Nat} (h : Cond.exactly (.string own k) "java/lang/String" ∈ st_W) : ∃ a : Nat, (Term.string own k).eval args s none [] s = some (.ref a) := by
  obtain ⟨a, c, cA, kA, q1, -⟩ := Cond.exactly_spec (args := args) (first := s) (o := none) (s := s) (idx := []) (t := .string own k) (cls := "java/lang/String") (hq _ h)
  exact ⟨a, q1⟩
theorem st_vkS {N : Nat} {len : List Nat} {byt : List (List Int32)} {k k' v : Nat → Nat} {U : State} {H : Heap} (h : vk_S N len byt k v A U H) (e : ∀ i, i < N → k' i = k i) : vk_S N len byt k' v A U H := by
  obtain ⟨h1, h2⟩ := h
  refine ⟨fun i hi => ?_, fun i j hi hj hij => ?_⟩
  · rw [e i hi]; exact h1 i hi
  · exact h2 i j hi hj ((e i hi).symm.trans (hij.trans (e j hj)))
theorem st_vkV {N : Nat} {len : List Nat} {byt : List (List Int32)} {k v v' : Nat → Nat} {U : State} {H : Heap} (h : vk_S N len byt k v A U H) (e : ∀ i, i < N → v' i = v i) : vk_S N len byt k v' A U H := by
  obtain ⟨h1, h2⟩ := h
  refine ⟨fun i hi => ?_, h2⟩
  rw [e i hi]; exact h1 i hi
theorem st_R (hts : ∀ w ∈ lw_tbl, w.before args s = true) (hq : ∀ c ∈ st_W, c.before args s = true) (hA : ∀ a : Nat, a < s.heap.size → ¬ A a) (n9 : Nat) (v9 : Nat → Nat) : ∃ ak av : Nat → Nat, vk_S 7 pr_slen pr_sbyt ak av A s s.heap ∧ vk_S 6 pr_llen pr_lbyt (fun k => ak (k + 10)) (fun k => av (k + 10)) A s s.heap ∧ ak 1000 = n9 ∧ (∀ k, av (k + 1000) = v9 k) ∧ ∀ q ∈ pr_strs, vk_R q.1 q.2.1 q.2.2.1 (ak q.2.2.2) s := by
  obtain ⟨k, v, hS, hE⟩ := st_str (args := args) hq hA
  obtain ⟨k2, v2, hS2, hE2⟩ := st_lstr (args := args) hq hA
  obtain ⟨m7, e7⟩ := st_msg hq (own := RX7) (k := 273) (by decide +kernel)
  obtain ⟨m8, e8⟩ := st_msg hq (own := RX7) (k := 280) (by decide +kernel)
  obtain ⟨m9, e9⟩ := st_msg hq (own := RX7) (k := 283) (by decide +kernel)
  obtain ⟨K, hK⟩ : ∃ K : Nat → Nat, K = fun i => if i = 7 then m7 else if i = 8 then m8 else if i = 9 then m9 else if i < 7 then k i else if i = 1000 then n9 else k2 (i - 10) := ⟨_, rfl⟩
  obtain ⟨V, hV⟩ : ∃ V : Nat → Nat, V = fun i => if i < 10 then v i else if i < 1000 then v2 (i - 10) else v9 (i - 1000) := ⟨_, rfl⟩
  have K0 : ∀ i, i < 7 → K i = k i := fun i hi => by rw [hK]; dsimp only; rw [if_neg (by omega), if_neg (by omega), if_neg (by omega), if_pos hi]
  have K7 : K 7 = m7 := by rw [hK]; rfl
  have K8 : K 8 = m8 := by rw [hK]; rfl
  have K9 : K 9 = m9 := by rw [hK]; rfl
  have K1 : ∀ i, i < 6 → K (i + 10) = k2 i := fun i hi => by rw [hK]; dsimp only; rw [if_neg (by omega), if_neg (by omega), if_neg (by omega), if_neg (by omega), if_neg (by omega), Nat.add_sub_cancel]
  have V0 : ∀ i, i < 7 → V i = v i := fun i hi => by rw [hV]; dsimp only; rw [if_pos (by omega)]
  have V1 : ∀ i, i < 6 → V (i + 10) = v2 i := fun i hi => by rw [hV]; dsimp only; rw [if_neg (by omega), if_pos (by omega), Nat.add_sub_cancel]
  refine ⟨K, V, st_vkV (st_vkS hS K0) V0, st_vkV (st_vkS hS2 K1) V1, by rw [hK]; rfl, fun i => by rw [hV]; dsimp only; rw [if_neg (by omega), if_neg (by omega), Nat.add_sub_cancel], ?_⟩
  have mem : ∀ q ∈ pr_strs, Cond.stringRef q.1 q.2.1 q.2.2.1 ∈ lw_tbl := by decide +kernel
  have ev : ∀ q ∈ pr_strs, (Term.string q.1 q.2.1).eval args s none [] s = some (.ref (K q.2.2.2)) := by
    intro q h
    simp only [pr_strs, List.mem_cons, List.not_mem_nil, or_false] at h
    rcases h with rfl | rfl | rfl | rfl | rfl | rfl | rfl | rfl | rfl | rfl | rfl | rfl | rfl | rfl | rfl | rfl
    · rw [K0 0 (by decide)]; exact hE 0 (by decide)
    · rw [K0 1 (by decide)]; exact hE 1 (by decide)
    · rw [K0 2 (by decide)]; exact hE 2 (by decide)
    · rw [K0 3 (by decide)]; exact hE 3 (by decide)
    · rw [K0 4 (by decide)]; exact hE 4 (by decide)
    · rw [K0 5 (by decide)]; exact hE 5 (by decide)
    · rw [K0 6 (by decide)]; exact hE 6 (by decide)
    · exact (hE2 0 (by decide)).trans (by rw [← K1 0 (by decide)])
    · exact (hE2 1 (by decide)).trans (by rw [← K1 1 (by decide)])
    · exact (hE2 2 (by decide)).trans (by rw [← K1 2 (by decide)])
    · exact (hE2 3 (by decide)).trans (by rw [← K1 3 (by decide)])
    · exact (hE2 4 (by decide)).trans (by rw [← K1 4 (by decide)])
    · exact (hE2 5 (by decide)).trans (by rw [← K1 5 (by decide)])
    · rw [K7]; exact e7
    · rw [K8]; exact e8
    · rw [K9]; exact e9
  exact fun q h => vk_R.of (hts _ (mem q h)) (ev q h)
/-- all that the walk's standing facts ask at the start -/
theorem st_SF (hts : ∀ w ∈ lw_tbl, w.before args s = true) (hq : ∀ c ∈ st_W, c.before args s = true) {b N : Nat} {xs : Nat → Int32} (hX : va_X b N xs s s.heap) (hb : b < s.heap.size) : ∃ g : pr_C, pr_z g = s.heap.size ∧ pr_sa g 5 = b ∧ pr_scn g = N ∧ va_K (pr_D g) vwCl (pr_tys g) s ∧ pr_SF g s s.heap := by
  have hA : ∀ a : Nat, a < s.heap.size → ¬ s.heap.size ≤ a := fun a h => Nat.not_le_of_lt h
  obtain ⟨D, ca, hK⟩ := st_K (st_gw hts) (st_AOw hts)
  obtain ⟨t0, z0, T0⟩ := st_s0 (A := fun q => s.heap.size ≤ q) hts hq hA
  obtain ⟨t1, z1, T1⟩ := st_s1 (A := fun q => s.heap.size ≤ q) hts hq hA
  obtain ⟨t2, z2, T2⟩ := st_s2 (A := fun q => s.heap.size ≤ q) hts hq hA
  obtain ⟨t3, z3, T3⟩ := st_dig (A := fun q => s.heap.size ≤ q) hts hq hA 0 (by decide)
  obtain ⟨t4, z4, T4⟩ := st_dig (A := fun q => s.heap.size ≤ q) hts hq hA 1 (by decide)
  obtain ⟨ak, av, hS, hS2, hn, hv, hR⟩ := st_R (A := fun q => s.heap.size ≤ q) hts hq hA N (fun k => (xs k).toBitVec.toNat)
  obtain ⟨u1, u2, u3, u4⟩ := st_z (A := fun q => s.heap.size ≤ q) hts hq hA
  have hxs : xs = fun k => Int32.ofNat (av (k + 1000)) := funext fun k => by rw [hv k, ofN_32]
  rw [← hn, hxs] at hX
  refine ⟨(s.heap.size, D, ca, fun i => [t0, t1, t2, t3, t4, b].getD i t0, ak, av), rfl, rfl, hn, hK, fun i hi => ?_, hS, hR, u1, u2, u3, u4, trivial, st_nest hts, st_AOw hts, hS2, fun i hi => ?_, st_prv hts, hX, Nat.not_le_of_lt hb⟩
  · match i, hi with
    | 0, _ => exact ⟨z0, T0⟩
    | 1, _ => exact ⟨z1, T1⟩
    | 2, _ => exact ⟨z2, T2⟩
    | i + 3, hi => exact absurd hi (by omega)
  · match i, hi with
    | 0, _ => exact ⟨z3, T3⟩
    | 1, _ => exact ⟨z4, T4⟩
    | i + 2, hi => exact absurd hi (by omega)
end STU
