/-! THE WHOLE -/
theorem whole_start {p : Program} {e : Env} {s : State} {m : MethodId} {below : List Frame} {meth : Method} {c : Code} (l : Launch) (hflags : l.flags = flags0) {b L : Nat} {xs : Nat → Int32} (hL : L ≤ 260) (C0 : lw_At p s m meth c b L xs) : W p l e room_1 s m #[Value.ref b] below meth c s.heap [] 0 0 (lw_Z below #[Value.ref b] s) (entryFrame m ([Value.ref b] : List Value).toArray 4) := by
  obtain ⟨h1, h2, h3, h4, h5, h6, h7, h8, h9, h10⟩ := C0
  have hst : l.stackTraces = false := by
    unfold Launch.stackTraces
    rw [hflags]
    decide
  refine st_go hst h1 h2 h3 h4 h5 h6 h9 (flat_of_before _ h10) h7 h8 (fun g hz hsb hsn hA => ?_)
  have w := lw_walk0 (T := T_0 s) (I := fun _ _ => 0) (L := fun _ _ => 0) (Q := lw_Z below #[Value.ref b] s) (LM.of g) hA (by rw [hsn]; exact hL) (fun ls T I L' => by
    intro H locs lsS hR hl hS
    refine va_forget (fun q hq => ?_) ?_
    · have := hS.2.2 q hq
      unfold pr_A at this
      omega
    · exact lw_ret h1 h2 h3 h9 dL_law_185)
  rw [hsb] at w
  exact w
