/-! THE LAW'S SCRIPT -/
section SCR
variable {g : pr_C} {M : pr_MD} {d mc ms : Nat} {nL : Nat} {Q : State → Prop} {cs sl pc : Nat} {ls st : List Value} {T : pr_T} {I : pr_I} {L : pr_L} {p : Program} {l : Launch} {e : Env} {R : Room} {s : State} {m : MethodId} {args : Array Value} {below : List Frame} {meth : Method} {c : Code}
theorem pr_scr (hA : pr_Am g (p, l, e, R, s, m, args, below, meth, c) M d mc ms) (hz : pr_z g = s.heap.size) {b N : Nat} {xs : Nat → Int32} (hX : va_X b N xs s s.heap) (hb : b < s.heap.size) {i : Int32} (hin : vp_in i N) (hd : decode M.2.1 pc = .ok (.iaload, 1)) (kk : pr_G g (p, l, e, R, s, m, args, below, meth, c) nL Q cs sl (pc + 1) ls (.int (xs i.toNatClampNeg) :: st) T I L) : pr_G g (p, l, e, R, s, m, args, below, meth, c) nL Q cs sl pc ls (.int i :: .ref b :: st) T I L := by
  intro H locs lsS hR hl hS
  exact va_sld hA.1 hA.2.1 hX hb (fun q => by unfold pr_A at q; omega) hS hin hd (kk H locs lsS hR hl hS)
theorem pr_scl (hA : pr_Am g (p, l, e, R, s, m, args, below, meth, c) M d mc ms) (hz : pr_z g = s.heap.size) {b N : Nat} {xs : Nat → Int32} (hX : va_X b N xs s s.heap) (hb : b < s.heap.size) (hd : decode M.2.1 pc = .ok (.arraylength, 1)) (kk : pr_G g (p, l, e, R, s, m, args, below, meth, c) nL Q cs sl (pc + 1) ls (.int (Int32.ofNat N) :: st) T I L) : pr_G g (p, l, e, R, s, m, args, below, meth, c) nL Q cs sl pc ls (.ref b :: st) T I L := by
  intro H locs lsS hR hl hS
  exact va_slen hA.1 hA.2.1 hX hb (fun q => by unfold pr_A at q; omega) hS hd (kk H locs lsS hR hl hS)
end SCR
