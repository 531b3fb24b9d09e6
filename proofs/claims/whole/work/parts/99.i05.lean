/-! THE WHOLE -/
theorem lw_walk0 {g : pr_C} {X : pr_X} {Q : State → Prop} {T : pr_T} {I : pr_I} {L : pr_L} {b N : Nat} {xs : Nat → Int32} (hA : pr_Am g X mLaw 13 601024 7293034) (hs : Scr g X b N xs) (hN : N ≤ 2560) (fin : ∀ (cs sl : Nat) (ls : List Value) (T : pr_T) (I : pr_I) (L : pr_L), cs ≤ 601024 → sl ≤ 7293034 → pr_G g X 8 Q cs sl 3262 ls [] T I L) : pr_G g X 8 Q 0 0 0 (pr_en [.ref b] 8) [] T I L := by
  obtain ⟨x, hx⟩ : ∃ x, x = T.1 := ⟨_, rfl⟩
  have k1 : (pr_new T 7 0).2.1 x = (7, 0) := if_pos hx
  have k2 : x < (pr_new T 7 0).1 := by show x < T.1 + 1; omega
  obtain ⟨T2, hT2⟩ : ∃ T2, T2 = tX7_init (pr_new T 7 0) x := ⟨_, rfl⟩
  have hT0 : (pr_new T 7 0).1 = x + 1 := by show T.1 + 1 = _; omega
  obtain ⟨m1, m2, m3, m4, m5, m6, m7, m8, m9⟩ := made_X7 (T := pr_new T 7 0) hT0 k1
  rw [← hT2] at m8
  obtain ⟨I2, hI2⟩ : ∃ I2, I2 = iX7 (pr_row I x (fun _ => 0)) (x + 1) := ⟨_, rfl⟩
  have n1 : (pr_new T2 8 0).1 = x + 251 + 1 := by show T2.1 + 1 = _; omega
  have n2 : (pr_new T2 8 0).2.1 (x + 251) = (8, 0) := if_pos m8.symm
  obtain ⟨T4, hT4⟩ : ∃ T4, T4 = tX8_init (pr_new T2 8 0) (x + 251) := ⟨_, rfl⟩
  obtain ⟨o1, o2, o3⟩ := made_Mo (T := pr_new T2 8 0) n1 n2
  rw [← hT4] at o1 o2 o3
  refine pr_newO hA n_L_8 (by decide) (by decide) dM_0 ?_
  refine pr_dup hA dM_3 rfl ?_
  rw [← hx]
  refine pr_callI (st := [.ref x]) (As := []) hA rfl (c_X7_init (pr_hl hA) k1 k2) b_L_141 kI_X7_init rfl rfl rfl (by decide) (by decide) (by decide) rfl (Nat.le_of_ble_eq_true rfl) dM_4 (fun v T' I' L' hv => ?_)
  obtain ⟨rfl, rfl, rfl, rfl⟩ := hv
  rw [← hT2, hT0, ← hI2]
  refine pr_astore_n (n := 1) (ls' := [.ref b, .ref x, .null, .null, .null, .null, .null, .null]) hA dM_7 (by decide) rfl ?_
  refine pr_newO hA n_L_142 (by decide) (by decide) dM_8 ?_
  refine pr_dup hA dM_11 rfl ?_
  rw [m8]
  refine pr_callI (st := [.ref (x + 251)]) (As := []) hA rfl (c_X8_init (pr_hl hA) n2 (by omega) pr_row_eq) b_L_144 kI_X8_init rfl rfl rfl (by decide) (by decide) (by decide) rfl (Nat.le_of_ble_eq_true rfl) dM_12 (fun v T' I' L' hv => ?_)
  obtain ⟨rfl, rfl, rfl, rfl⟩ := hv
  rw [← hT4, n1]
  refine pr_astore_n (n := 2) (ls' := [.ref b, .ref x, .ref (x + 251), .null, .null, .null, .null, .null]) hA dM_15 (by decide) rfl ?_
  refine pr_iconst hA 1 dM_16 (by decide) ?_
  refine pr_newL hA 1 kY_long (by decide) (by decide) (by decide) (by decide) (by decide) dM_17 ?_
  rw [o2]
  refine pr_astore_n (n := 3) (ls' := [.ref b, .ref x, .ref (x + 251), .ref (x + 267), .null, .null, .null, .null]) hA dM_19 (by decide) rfl ?_
  refine pr_iconst hA (nI 0) dM_20 (by decide) ?_
  refine pr_istore (ls' := lwL b x (nI 0)) hA dM_21 (by decide) rfl ?_
  have fr : ∀ a, a < x + 251 → (pr_new T4 21 1).2.1 a = T2.2.1 a ∧ (pr_new T4 21 1).2.2 a = T2.2.2 a := fun a ha => by
    have q1 : (pr_new T4 21 1).2.1 a = T4.2.1 a := if_neg (by omega)
    have q2 : (pr_new T4 21 1).2.2 a = T4.2.2 a := funext fun j => if_neg (by omega)
    have q3 := o3.2.1 a (by omega)
    have q4 := o3.2.2.1 a (by omega) (by omega)
    have q5 : (pr_new T2 8 0).2.1 a = T2.2.1 a := if_neg (by omega)
    have q6 : (pr_new T2 8 0).2.2 a = T2.2.2 a := funext fun j => if_neg (by omega)
    exact ⟨q1.trans (q3.trans q5), q2.trans (q4.trans q6)⟩
  have mo : pr_Mo (pr_new T4 21 1) (x + 251) := by
    refine ⟨fun o ho => ?_, fun k b hk => ?_⟩
    · exact (if_neg (by omega)).trans (o1.1 o ho)
    · exact (if_neg (by omega)).trans (o1.2 k b hk)
  have st := LI.start (L := pr_rowl (nwL (nwL L (x + 1)) (x + 1 + 121)) T4.1 (fun _ => 0)) (I4 := pr_row (zI (pr_row I2 (x + 251) (fun _ => 0)) (x + 251 + 1) 15) (x + 251 + 1) (bg_row (fun _ => 0))) hT0 k1 hT2 (fun a ha => (fr a ha).1) (fun a ha => (fr a ha).2) mo (if_pos (by omega)) (by show x + 268 ≤ T4.1 + 1; omega) (fun a ha => by rw [pr_row_ne (by omega), zI_out (by omega), pr_row_ne (by omega), hI2]) (fun o h1 h2 => by
    rw [pr_row_ne (by omega)]
    by_cases c : o = 0
    · rw [zI_out (by omega), c, Nat.add_zero, pr_row_eq]
    · rw [zI_in (by omega) (by omega)]) pr_row_eq
  rw [o2] at st
  exact pr_more (by decide) (by decide) (lw_loop hA hs hN 268 40186 (by decide) (by decide) fin 513 0 _ _ _ (by omega) (by decide) st)
theorem whole_start {p : Program} {e : Env} {s : State} {m : MethodId} {below : List Frame} {meth : Method} {c : Code} (l : Launch) (hflags : l.flags = flags0) {b L : Nat} {xs : Nat → Int32} (hL : L ≤ 2560) (C0 : lw_At p s m meth c b L xs) : W p l e room_1 s m #[Value.ref b] below meth c s.heap [] 0 0 (lw_Z below #[Value.ref b] s) (entryFrame m ([Value.ref b] : List Value).toArray 8) := by
  obtain ⟨h1, h2, h3, h4, h5, h6, h7, h8, h9, h10⟩ := C0
  have hst : l.stackTraces = false := by
    unfold Launch.stackTraces
    rw [hflags]
    decide
  refine st_go hst h1 h2 h3 h4 h5 h6 h9 (flat_of_before _ h10) (fun g hz hA => ?_)
  refine lw_walk0 (N := L) (xs := xs) hA ⟨fun Q cs sl pc ls st T I L' i hi hd kk => pr_scr hA hz h7 h8 hi hd kk, fun Q cs sl pc ls st T I L' hd kk => pr_scl hA hz h7 h8 hd kk⟩ hL (fun cs sl ls T I L' hcs hsl => ?_)
  refine pr_iconst hA 1 dM_3262 (by decide) ?_
  intro H locs lsS hR hl hS
  refine va_forget (fun q hq => ?_) ?_
  · have := hS.2.2 q hq
    unfold pr_A at this
    omega
  · exact W.widen hcs hsl (lw_ret h1 h2 h3 h9 dM_3263)
