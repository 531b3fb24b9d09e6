/-! THE LAW'S BODY: its script, a call's end -/
section LWB
variable {g : pr_C} {X : pr_X} {Q : State → Prop} {cs sl cs0 sl0 : Nat} {ls st : List Value} {T : pr_T} {I : pr_I} {L : pr_L} {b N x : Nat} {xs : Nat → Int32}
def Scr (g : pr_C) (X : pr_X) (b N : Nat) (xs : Nat → Int32) : Prop :=
  (∀ (Q : State → Prop) (cs sl pc : Nat) (ls st : List Value) (T : pr_T) (I : pr_I) (L : pr_L) (i : Int32), vp_in i N → decode code pc = .ok (.iaload, 1) → pr_G g X 8 Q cs sl (pc + 1) ls (.int (xs i.toNatClampNeg) :: st) T I L → pr_G g X 8 Q cs sl pc ls (.int i :: .ref b :: st) T I L) ∧
  ∀ (Q : State → Prop) (cs sl pc : Nat) (ls st : List Value) (T : pr_T) (I : pr_I) (L : pr_L), decode code pc = .ok (.arraylength, 1) → pr_G g X 8 Q cs sl (pc + 1) ls (.int (Int32.ofNat N) :: st) T I L → pr_G g X 8 Q cs sl pc ls (.ref b :: st) T I L
/-- the locals at the loop's head -/
def lwL (b x : Nat) (i : Int32) : List Value := [.ref b, .ref x, .ref (x + 251), .ref (x + 267), .int i, .null, .null, .null]
theorem lw_arg (hA : pr_Am g X mLaw 13 601024 7293034) (hs : Scr g X b N xs) {pc : Nat} {n : Int} (k : Int32) {i : Int32} (d0 : decode code pc = .ok (.aload_n 0, 1)) (d1 : decode code (pc + 1) = .ok (.iload 4, 2)) (d2 : decode code (pc + 3) = .ok (.iconst n, 1)) (hk : Int32.ofInt n = k) (d3 : decode code (pc + 4) = .ok (.iadd, 1)) (d4 : decode code (pc + 5) = .ok (.iaload, 1)) (g0 : ls[0]? = some (.ref b)) (g4 : ls[4]? = some (.int i)) (hin : vp_in (i + k) N)
    (kk : pr_G g X 8 Q cs sl (pc + 6) ls (.int (xs (i + k).toNatClampNeg) :: st) T I L) : pr_G g X 8 Q cs sl pc ls st T I L := by
  refine pr_aload_n (n := 0) hA d0 g0 ?_
  refine pr_iload hA d1 g4 ?_
  refine pr_iconst hA k d2 hk ?_
  refine pr_iadd hA d3 ?_
  exact hs.1 _ _ _ _ _ _ _ _ _ _ hin d4 kk
theorem lg_same {u v : Int64} (h : u = v) : lg_cmp u v = 0 := (lg_cmp_eq u v).mpr h
/-- behind the reference's call: thrown, and the comparison -/
theorem lw_tail (hA : pr_Am g X mLaw 13 601024 7293034) {t : Nat} {off : Int} {i k bb : Int32}
    (d0 : decode code t = .ok (.istore 6, 2)) (d1 : decode code (t + 2) = .ok (.aload_n 2, 1)) (d2 : decode code (t + 3) = .ok (.invokevirtual 179, 3)) (d3 : decode code (t + 6) = .ok (.iload 5, 2)) (d4 : decode code (t + 8) = .ok (.if_icmp .eq 5, 3)) (d5 : decode code (t + 13) = .ok (.iload 5, 2)) (d6 : decode code (t + 15) = .ok (.ifCond .ne 15, 3)) (d7 : decode code (t + 18) = .ok (.aload_n 3, 1)) (d8 : decode code (t + 19) = .ok (.iconst 0, 1)) (d9 : decode code (t + 20) = .ok (.laload, 1)) (d10 : decode code (t + 21) = .ok (.iload 6, 2)) (d11 : decode code (t + 23) = .ok (.i2l, 1)) (d12 : decode code (t + 24) = .ok (.lcmp, 1)) (d13 : decode code (t + 25) = .ok (.ifCond .eq 5, 3)) (d14 : decode code (t + 30) = .ok (.goto off, 3)) (ht : ((t + 30 : Nat) : Int) + off = ((3256 : Nat) : Int))
    (hcs : cs ≤ cs0) (hsl : sl ≤ sl0) (hc1 : cs0 ≤ 601024) (hs1 : sl0 ≤ 7293034) (hr : k = 0 → L (x + 267) 0 = bb.toInt64) (h6 : I (x + 251) 6 = k) (h : LI x T I L)
    (nx : ∀ T' I' L', LI x T' I' L' → pr_G g X 8 Q cs0 sl0 3256 (lwL b x i) [] T' I' L') : pr_G g X 8 Q cs sl t [.ref b, .ref x, .ref (x + 251), .ref (x + 267), .int i, .int k, .null, .null] [.int bb] T I L := by
  have h' := h
  obtain ⟨σ, τ, φ, ι, μ, n, hS, hM, hD, hSn⟩ := h
  have th := c_mf_thrown (g := g) (l := pr_launch X) (T := T) (I := I) (L := L) (m := x + 251) (σ := μ) (pr_hl hA) hS.2.2.2.2.2.2.1 hD.1.1.1.cr.m
  have e6 : mf_thrown_r μ = k := (hM.2.2.2.2.c0 (by decide)).symm.trans h6
  have eM : rg_put I (x + 251) 16 μ = I := hM.2.2.2.2
  rw [eM, e6] at th
  have fin : ∀ v6 : Value, pr_G g X 8 Q cs sl (t + 30) [.ref b, .ref x, .ref (x + 251), .ref (x + 267), .int i, .int k, v6, .null] [] T I L := fun v6 => by
    refine pr_goto hA 3256 d14 ht ?_
    exact pr_lessL (ls' := lwL b x i) ⟨.inr rfl, .inr rfl, .inr rfl, .inr rfl, .inr rfl, .inl rfl, .inl rfl, .inl rfl, trivial⟩ (pr_more hcs hsl (nx T I L h'))
  refine pr_istore (ls' := [.ref b, .ref x, .ref (x + 251), .ref (x + 267), .int i, .int k, .int bb, .null]) hA d0 (by decide) rfl ?_
  refine pr_aload_n (n := 2) hA d1 rfl ?_
  refine pr_callV hA rfl (As := []) th v_L_179 (mo_k0 hS.2.2.2.2.2.2.1) (by decide) rfl rfl rfl (by decide) (Nat.le_trans (Nat.le_of_eq (Nat.add_zero cs)) (Nat.le_trans hcs hc1)) (Nat.le_trans (Nat.le_of_eq (Nat.add_zero sl)) (Nat.le_trans hsl hs1)) (st := []) rfl (Nat.le_of_ble_eq_true rfl) d2 (fun v T2 I2 L2 hv => ?_) (fun _ _ _ _ h => h.elim)
  obtain ⟨rfl, rfl, rfl, rfl⟩ := hv
  refine pr_iload hA d3 rfl ?_
  refine pr_icmp_eq hA (t + 13) d4 (by omega) (fun _ => ?_) (fun c => absurd rfl c)
  refine pr_iload hA d5 rfl ?_
  refine pr_if_ne hA (t + 30) d6 (by omega) (fun _ => fin (.int bb)) (fun c0 => ?_)
  refine pr_aload_n (n := 3) hA d7 rfl ?_
  refine pr_iconst hA (nI 0) d8 (by decide) ?_
  refine pr_laldE hA hS.2.2.2.2.2.2.2.1 (by decide) (by decide) (hr c0) d9 ?_
  refine pr_iload hA d10 rfl ?_
  refine pr_i2l hA d11 ?_
  refine pr_lcmp hA d12 ?_
  exact pr_if_eq hA (t + 30) d13 (by omega) (fun _ => fin (.int bb)) (fun c => absurd (lg_same rfl) c)
theorem lw_tailL (hA : pr_Am g X mLaw 13 601024 7293034) {t : Nat} {off : Int} {i k : Int32} {bb : Int64}
    (d0 : decode code t = .ok (.lstore 6, 2)) (d1 : decode code (t + 2) = .ok (.aload_n 2, 1)) (d2 : decode code (t + 3) = .ok (.invokevirtual 179, 3)) (d3 : decode code (t + 6) = .ok (.iload 5, 2)) (d4 : decode code (t + 8) = .ok (.if_icmp .eq 5, 3)) (d5 : decode code (t + 13) = .ok (.iload 5, 2)) (d6 : decode code (t + 15) = .ok (.ifCond .ne 14, 3)) (d7 : decode code (t + 18) = .ok (.aload_n 3, 1)) (d8 : decode code (t + 19) = .ok (.iconst 0, 1)) (d9 : decode code (t + 20) = .ok (.laload, 1)) (d10 : decode code (t + 21) = .ok (.lload 6, 2)) (d12 : decode code (t + 23) = .ok (.lcmp, 1)) (d13 : decode code (t + 24) = .ok (.ifCond .eq 5, 3)) (d14 : decode code (t + 29) = .ok (.goto off, 3)) (ht : ((t + 29 : Nat) : Int) + off = ((3256 : Nat) : Int))
    (hcs : cs ≤ cs0) (hsl : sl ≤ sl0) (hc1 : cs0 ≤ 601024) (hs1 : sl0 ≤ 7293034) (hr : k = 0 → L (x + 267) 0 = bb) (h6 : I (x + 251) 6 = k) (h : LI x T I L)
    (nx : ∀ T' I' L', LI x T' I' L' → pr_G g X 8 Q cs0 sl0 3256 (lwL b x i) [] T' I' L') : pr_G g X 8 Q cs sl t [.ref b, .ref x, .ref (x + 251), .ref (x + 267), .int i, .int k, .null, .null] [.long bb] T I L := by
  have h' := h
  obtain ⟨σ, τ, φ, ι, μ, n, hS, hM, hD, hSn⟩ := h
  have th := c_mf_thrown (g := g) (l := pr_launch X) (T := T) (I := I) (L := L) (m := x + 251) (σ := μ) (pr_hl hA) hS.2.2.2.2.2.2.1 hD.1.1.1.cr.m
  have e6 : mf_thrown_r μ = k := (hM.2.2.2.2.c0 (by decide)).symm.trans h6
  have eM : rg_put I (x + 251) 16 μ = I := hM.2.2.2.2
  rw [eM, e6] at th
  have fin : ∀ v6 : Value, pr_G g X 8 Q cs sl (t + 29) [.ref b, .ref x, .ref (x + 251), .ref (x + 267), .int i, .int k, v6, .null] [] T I L := fun v6 => by
    refine pr_goto hA 3256 d14 ht ?_
    exact pr_lessL (ls' := lwL b x i) ⟨.inr rfl, .inr rfl, .inr rfl, .inr rfl, .inr rfl, .inl rfl, .inl rfl, .inl rfl, trivial⟩ (pr_more hcs hsl (nx T I L h'))
  refine pr_lstore (ls' := [.ref b, .ref x, .ref (x + 251), .ref (x + 267), .int i, .int k, .long bb, .null]) hA d0 (by decide) rfl ?_
  refine pr_aload_n (n := 2) hA d1 rfl ?_
  refine pr_callV hA rfl (As := []) th v_L_179 (mo_k0 hS.2.2.2.2.2.2.1) (by decide) rfl rfl rfl (by decide) (Nat.le_trans (Nat.le_of_eq (Nat.add_zero cs)) (Nat.le_trans hcs hc1)) (Nat.le_trans (Nat.le_of_eq (Nat.add_zero sl)) (Nat.le_trans hsl hs1)) (st := []) rfl (Nat.le_of_ble_eq_true rfl) d2 (fun v T2 I2 L2 hv => ?_) (fun _ _ _ _ h => h.elim)
  obtain ⟨rfl, rfl, rfl, rfl⟩ := hv
  refine pr_iload hA d3 rfl ?_
  refine pr_icmp_eq hA (t + 13) d4 (by omega) (fun _ => ?_) (fun c => absurd rfl c)
  refine pr_iload hA d5 rfl ?_
  refine pr_if_ne hA (t + 29) d6 (by omega) (fun _ => fin (.long bb)) (fun c0 => ?_)
  refine pr_aload_n (n := 3) hA d7 rfl ?_
  refine pr_iconst hA (nI 0) d8 (by decide) ?_
  refine pr_laldE hA hS.2.2.2.2.2.2.2.1 (by decide) (by decide) (hr c0) d9 ?_
  refine pr_lload hA d10 rfl ?_
  refine pr_lcmp hA d12 ?_
  exact pr_if_eq hA (t + 29) d13 (by omega) (fun _ => fin (.long bb)) (fun c => absurd (lg_same rfl) c)
end LWB
