theorem pr_lo.get {lsS : Array Slot} {nL : Nat} {ls : List Value} (h : pr_lo lsS nL ls) {i : Nat} {v : Value} (hv : ls[i]? = some v) (hn : v ≠ .null) : lsS[i]? = some (.val v) := h.2.2 i v hv hn
def pr_isn : Value → Bool
  | .null => true
  | _ => false
theorem pr_isn_ne {v : Value} (h : v ≠ .null) : pr_isn v = false := by cases v <;> first | rfl | exact absurd rfl h
theorem pr_isn_of {v : Value} (h : pr_isn v = false) : v ≠ .null := by intro e; rw [e] at h; cases h
def pr_as : List Value → Nat → List (Nat × Value)
  | [], _ => []
  | v :: t, n => if pr_isn v then pr_as t (n + 1) else (n, v) :: pr_as t (n + 1)
theorem pr_as_mem : ∀ (ls : List Value) (n j : Nat) (v : Value), (j, v) ∈ pr_as ls n ↔ n ≤ j ∧ ls[j - n]? = some v ∧ pr_isn v = false
  | [], n, j, v => by simp [pr_as]
  | u :: t, n, j, v => by
    have ih := pr_as_mem t (n + 1) j v
    by_cases hj : j = n
    · subst hj
      by_cases hu : pr_isn u = true
      · simp only [pr_as, hu, if_true, ih]
        constructor
        · rintro ⟨h, -⟩; omega
        · rintro ⟨-, h, h2⟩; simp at h; subst h; rw [hu] at h2; cases h2
      · have hu2 : pr_isn u = false := by simpa using hu
        simp only [pr_as, hu2, Bool.false_eq_true, if_false, List.mem_cons, Prod.mk.injEq, ih]
        constructor
        · rintro (⟨-, rfl⟩ | ⟨h, -⟩)
          · exact ⟨Nat.le_refl _, by simp, hu2⟩
          · omega
        · rintro ⟨-, h, h2⟩
          simp at h
          exact Or.inl ⟨trivial, h.symm⟩
    · have e : ∀ w, (n ≤ j ∧ (u :: t)[j - n]? = some w) ↔ (n + 1 ≤ j ∧ t[j - (n + 1)]? = some w) := by
        intro w
        constructor
        · rintro ⟨h1, h2⟩
          have h3 : j - n = (j - (n + 1)) + 1 := by omega
          rw [h3, List.getElem?_cons_succ] at h2
          exact ⟨by omega, h2⟩
        · rintro ⟨h1, h2⟩
          have h3 : j - n = (j - (n + 1)) + 1 := by omega
          rw [h3, List.getElem?_cons_succ]
          exact ⟨by omega, h2⟩
      have e2 : (n ≤ j ∧ (u :: t)[j - n]? = some v ∧ pr_isn v = false) ↔ (n + 1 ≤ j ∧ t[j - (n + 1)]? = some v ∧ pr_isn v = false) := by
        constructor
        · rintro ⟨h1, h2, h3⟩; exact ⟨((e v).mp ⟨h1, h2⟩).1, ((e v).mp ⟨h1, h2⟩).2, h3⟩
        · rintro ⟨h1, h2, h3⟩; exact ⟨((e v).mpr ⟨h1, h2⟩).1, ((e v).mpr ⟨h1, h2⟩).2, h3⟩
      rw [e2, ← ih]
      by_cases hu : pr_isn u = true
      · simp [pr_as, hu]
      · simp [pr_as, hu, hj]
theorem pr_lo.has {lsS : Array Slot} {nL : Nat} {ls : List Value} (h : pr_lo lsS nL ls) : lv_has lsS nL (pr_as ls 0) :=
  ⟨h.1, h.2.1, fun q hq => by
    obtain ⟨j, v⟩ := q
    obtain ⟨-, h2, h3⟩ := (pr_as_mem ls 0 j v).mp hq
    exact h.2.2 j v (by simpa using h2) (pr_isn_of h3)⟩
theorem pr_st1_get : ∀ (ls : List Value) (i : Nat) (v : Value) (j : Nat) (w : Value), (pr_st1 ls i v)[j]? = some w → w ≠ .null → (j = i ∧ w = v) ∨ (j ≠ i ∧ ls[j]? = some w ∧ ¬ (j + 1 = i ∧ pr_c2 w = true))
  | [], _, _, j, w, h, _ => by simp [pr_st1] at h
  | u :: t, 0, v, j, w, h, hw => by
    cases j with
    | zero => simp [pr_st1] at h; exact Or.inl ⟨rfl, h.symm⟩
    | succ j => simp [pr_st1] at h; exact Or.inr ⟨by omega, by simpa using h, by omega⟩
  | u :: t, 1, v, j, w, h, hw => by
    cases j with
    | zero =>
      simp only [pr_st1, List.getElem?_cons_zero, Option.some.injEq] at h
      by_cases hu : pr_c2 u = true
      · rw [if_pos hu] at h; exact absurd h.symm hw
      · rw [if_neg hu] at h; subst h; exact Or.inr ⟨by omega, by simp, fun q => hu q.2⟩
    | succ j =>
      simp only [pr_st1, List.getElem?_cons_succ] at h
      rcases pr_st1_get t 0 v j w h hw with ⟨h1, h2⟩ | ⟨h1, h2, h3⟩
      · exact Or.inl ⟨by omega, h2⟩
      · exact Or.inr ⟨by omega, by simpa using h2, by omega⟩
  | u :: t, i + 2, v, j, w, h, hw => by
    cases j with
    | zero => simp only [pr_st1, List.getElem?_cons_zero, Option.some.injEq] at h; exact Or.inr ⟨by omega, by simp [h], by omega⟩
    | succ j =>
      simp only [pr_st1, List.getElem?_cons_succ] at h
      rcases pr_st1_get t (i + 1) v j w h hw with ⟨h1, h2⟩ | ⟨h1, h2, h3⟩
      · exact Or.inl ⟨by omega, h2⟩
      · exact Or.inr ⟨by omega, by simpa using h2, fun q => h3 ⟨by omega, q.2⟩⟩
theorem pr_st2_get : ∀ (ls : List Value) (i : Nat) (v : Value) (j : Nat) (w : Value), (pr_st2 ls i v)[j]? = some w → w ≠ .null → (j = i ∧ w = v) ∨ (j ≠ i ∧ j ≠ i + 1 ∧ ls[j]? = some w ∧ ¬ (j + 1 = i ∧ pr_c2 w = true))
  | [], _, _, j, w, h, _ => by simp [pr_st2] at h
  | [u], 0, v, j, w, h, hw => by
    cases j with
    | zero => simp [pr_st2] at h; exact Or.inl ⟨rfl, h.symm⟩
    | succ j => simp [pr_st2] at h
  | u :: u2 :: t, 0, v, j, w, h, hw => by
    match j with
    | 0 => simp [pr_st2] at h; exact Or.inl ⟨rfl, h.symm⟩
    | 1 => simp [pr_st2] at h; exact absurd h.symm hw
    | j + 2 => simp [pr_st2] at h; exact Or.inr ⟨by omega, by omega, by simpa using h, by omega⟩
  | u :: t, 1, v, j, w, h, hw => by
    cases j with
    | zero =>
      simp only [pr_st2, List.getElem?_cons_zero, Option.some.injEq] at h
      by_cases hu : pr_c2 u = true
      · rw [if_pos hu] at h; exact absurd h.symm hw
      · rw [if_neg hu] at h; subst h; exact Or.inr ⟨by omega, by omega, by simp, fun q => hu q.2⟩
    | succ j =>
      simp only [pr_st2, List.getElem?_cons_succ] at h
      rcases pr_st2_get t 0 v j w h hw with ⟨h1, h2⟩ | ⟨h1, h1b, h2, h3⟩
      · exact Or.inl ⟨by omega, h2⟩
      · exact Or.inr ⟨by omega, by omega, by simpa using h2, by omega⟩
  | u :: t, i + 2, v, j, w, h, hw => by
    cases j with
    | zero => simp only [pr_st2, List.getElem?_cons_zero, Option.some.injEq] at h; exact Or.inr ⟨by omega, by omega, by simp [h], by omega⟩
    | succ j =>
      simp only [pr_st2, List.getElem?_cons_succ] at h
      rcases pr_st2_get t (i + 1) v j w h hw with ⟨h1, h2⟩ | ⟨h1, h1b, h2, h3⟩
      · exact Or.inl ⟨by omega, h2⟩
      · exact Or.inr ⟨by omega, by omega, by simpa using h2, fun q => h3 ⟨by omega, q.2⟩⟩
theorem pr_lo_of1 {lsS : Array Slot} {nL : Nat} {ls : List Value} {i : Nat} {v : Value} (h : lv_has lsS nL ((i, v) :: (pr_as ls 0).filter (fun q => !(q.1 == i) && !(q.1 + 1 == i && q.2.category == 2)))) : pr_lo lsS nL (pr_st1 ls i v) := by
  refine ⟨h.1, h.2.1, fun j w hj hw => ?_⟩
  rcases pr_st1_get ls i v j w hj hw with ⟨rfl, rfl⟩ | ⟨h1, h2, h3⟩
  · exact h.2.2 (j, w) List.mem_cons_self
  · refine h.2.2 (j, w) (List.mem_cons_of_mem _ (List.mem_filter.mpr ⟨(pr_as_mem ls 0 j w).mpr ⟨Nat.zero_le _, by simpa using h2, pr_isn_ne hw⟩, ?_⟩))
    simp only [Bool.and_eq_true, Bool.not_eq_true', beq_eq_false_iff_ne, ne_eq, Bool.and_eq_false_iff]
    refine ⟨h1, ?_⟩
    by_cases e : j + 1 = i
    · right; intro e2; exact h3 ⟨e, by simp [pr_c2, e2]⟩
    · left; exact e
theorem pr_lo_of2 {lsS : Array Slot} {nL : Nat} {ls : List Value} {i : Nat} {v : Value} (h : lv_has lsS nL ((i, v) :: (pr_as ls 0).filter (fun q => !(q.1 == i) && (!(q.1 == i + 1) && !(q.1 + 1 == i && q.2.category == 2))))) : pr_lo lsS nL (pr_st2 ls i v) := by
  refine ⟨h.1, h.2.1, fun j w hj hw => ?_⟩
  rcases pr_st2_get ls i v j w hj hw with ⟨rfl, rfl⟩ | ⟨h1, h1b, h2, h3⟩
  · exact h.2.2 (j, w) List.mem_cons_self
  · refine h.2.2 (j, w) (List.mem_cons_of_mem _ (List.mem_filter.mpr ⟨(pr_as_mem ls 0 j w).mpr ⟨Nat.zero_le _, by simpa using h2, pr_isn_ne hw⟩, ?_⟩))
    simp only [Bool.and_eq_true, Bool.not_eq_true', beq_eq_false_iff_ne, ne_eq, Bool.and_eq_false_iff]
    refine ⟨h1, h1b, ?_⟩
    by_cases e : j + 1 = i
    · right; intro e2; exact h3 ⟨e, by simp [pr_c2, e2]⟩
    · left; exact e
/-- the locals with which a method begins -/
def pr_en : List Value → Nat → List Value
  | [], n => List.replicate n .null
  | v :: vs, n => if pr_c2 v then v :: .null :: pr_en vs (n - 2) else v :: pr_en vs (n - 1)
theorem pr_en_nil (n j : Nat) (w : Value) (h : (pr_en [] n)[j]? = some w) : w = .null := List.eq_of_mem_replicate (List.mem_of_getElem? h)
theorem pr_en_get : ∀ (vs : List Value) (n o j : Nat) (w : Value), (pr_en vs n)[j]? = some w → w ≠ .null → (o + j, w) ∈ lv_args o vs
  | [], n, o, j, w, h, hw => absurd (pr_en_nil n j w h) hw
  | v :: vs, n, o, j, w, h, hw => by
    by_cases hv : pr_c2 v = true
    · have hc : v.category = 2 := by simpa [pr_c2] using hv
      simp only [pr_en, hv, if_true] at h
      match j with
      | 0 => simp at h; subst h; simp [lv_args]
      | 1 => simp at h; exact absurd h.symm hw
      | j + 2 =>
        simp at h
        have := pr_en_get vs (n - 2) (o + 2) j w h hw
        simp only [lv_args, hc, if_true]
        refine List.mem_cons_of_mem _ ?_
        rw [show o + (j + 2) = o + 2 + j by omega]
        exact this
    · have hc : ¬ v.category = 2 := by simpa [pr_c2] using hv
      simp only [pr_en, hv, if_false, Bool.false_eq_true] at h
      match j with
      | 0 => simp at h; subst h; simp [lv_args]
      | j + 1 =>
        simp at h
        have := pr_en_get vs (n - 1) (o + 1) j w h hw
        simp only [lv_args, hc, if_false]
        refine List.mem_cons_of_mem _ ?_
        rw [show o + (j + 1) = o + 1 + j by omega]
        exact this
theorem pr_lo_en {lsS : Array Slot} {nL : Nat} {vs : List Value} (h : lv_has lsS nL (lv_args 0 vs)) : pr_lo lsS nL (pr_en vs nL) :=
  ⟨h.1, h.2.1, fun j w hj hw => by
    have := pr_en_get vs nL 0 j w hj hw
    rw [Nat.zero_add] at this
    exact h.2.2 _ this⟩
section PRR
variable {g : pr_C} {X : pr_X} {M : pr_MD} {d mc ms : Nat} {nL : Nat} {Q : State → Prop} {cs sl pc : Nat} {ls st : List Value} {T : pr_T} {I : pr_I} {L : pr_L}
theorem pr_iconst (hA : pr_Am g X M d mc ms) {n : Int} (v : Int32) (hd : decode M.2.1 pc = .ok (.iconst n, 1)) (hv : Int32.ofInt n = v) (k : pr_G g X nL Q cs sl (pc + 1) ls (.int v :: st) T I L) : pr_G g X nL Q cs sl pc ls st T I L := by
  obtain ⟨p, l, e, R, s, m, args, below, meth, c⟩ := X
  intro H locs lsS hR hl hS
  exact lv_iconst hA.1 hA.2.1 hd hv (k H locs lsS hR hl hS)
theorem pr_bipush (hA : pr_Am g X M d mc ms) {n : Int} (v : Int32) (hd : decode M.2.1 pc = .ok (.bipush n, 2)) (hv : (Int8.ofInt n).toInt32 = v) (k : pr_G g X nL Q cs sl (pc + 2) ls (.int v :: st) T I L) : pr_G g X nL Q cs sl pc ls st T I L := by
  obtain ⟨p, l, e, R, s, m, args, below, meth, c⟩ := X
  intro H locs lsS hR hl hS
  exact lv_bipush hA.1 hA.2.1 hd hv (k H locs lsS hR hl hS)
theorem pr_sipush (hA : pr_Am g X M d mc ms) {n : Int} (v : Int32) (hd : decode M.2.1 pc = .ok (.sipush n, 3)) (hv : (Int16.ofInt n).toInt32 = v) (k : pr_G g X nL Q cs sl (pc + 3) ls (.int v :: st) T I L) : pr_G g X nL Q cs sl pc ls st T I L := by
  obtain ⟨p, l, e, R, s, m, args, below, meth, c⟩ := X
  intro H locs lsS hR hl hS
  exact lv_sipush hA.1 hA.2.1 hd hv (k H locs lsS hR hl hS)
theorem pr_lconst (hA : pr_Am g X M d mc ms) {n : Fin 2} (v : Int64) (hd : decode M.2.1 pc = .ok (.lconst n, 1)) (hv : Int64.ofNat (n : Nat) = v) (k : pr_G g X nL Q cs sl (pc + 1) ls (.long v :: st) T I L) : pr_G g X nL Q cs sl pc ls st T I L := by
  obtain ⟨p, l, e, R, s, m, args, below, meth, c⟩ := X
  intro H locs lsS hR hl hS
  exact lv_lconst hA.1 hA.2.1 hd hv (k H locs lsS hR hl hS)
theorem pr_iload_n (hA : pr_Am g X M d mc ms) {n : Fin 4} {x : Int32} (hd : decode M.2.1 pc = .ok (.iload_n n, 1)) (hg : ls[(n : Nat)]? = some (.int x)) (k : pr_G g X nL Q cs sl (pc + 1) ls (.int x :: st) T I L) : pr_G g X nL Q cs sl pc ls st T I L := by
  obtain ⟨p, l, e, R, s, m, args, below, meth, c⟩ := X
  intro H locs lsS hR hl hS
  exact lv_iload_n hA.1 hA.2.1 hd rfl (hl.get hg (fun q => nomatch q)) (k H locs lsS hR hl hS)
theorem pr_iload (hA : pr_Am g X M d mc ms) {i : Nat} {x : Int32} (hd : decode M.2.1 pc = .ok (.iload i, 2)) (hg : ls[i]? = some (.int x)) (k : pr_G g X nL Q cs sl (pc + 2) ls (.int x :: st) T I L) : pr_G g X nL Q cs sl pc ls st T I L := by
  obtain ⟨p, l, e, R, s, m, args, below, meth, c⟩ := X
  intro H locs lsS hR hl hS
  exact lv_iload hA.1 hA.2.1 hd (hl.get hg (fun q => nomatch q)) (k H locs lsS hR hl hS)
theorem pr_lload_n (hA : pr_Am g X M d mc ms) {n : Fin 4} {x : Int64} (hd : decode M.2.1 pc = .ok (.lload_n n, 1)) (hg : ls[(n : Nat)]? = some (.long x)) (k : pr_G g X nL Q cs sl (pc + 1) ls (.long x :: st) T I L) : pr_G g X nL Q cs sl pc ls st T I L := by
  obtain ⟨p, l, e, R, s, m, args, below, meth, c⟩ := X
  intro H locs lsS hR hl hS
  exact lv_lload_n hA.1 hA.2.1 hd rfl (hl.get hg (fun q => nomatch q)) (k H locs lsS hR hl hS)
theorem pr_lload (hA : pr_Am g X M d mc ms) {i : Nat} {x : Int64} (hd : decode M.2.1 pc = .ok (.lload i, 2)) (hg : ls[i]? = some (.long x)) (k : pr_G g X nL Q cs sl (pc + 2) ls (.long x :: st) T I L) : pr_G g X nL Q cs sl pc ls st T I L := by
  obtain ⟨p, l, e, R, s, m, args, below, meth, c⟩ := X
  intro H locs lsS hR hl hS
  exact lv_lload hA.1 hA.2.1 hd (hl.get hg (fun q => nomatch q)) (k H locs lsS hR hl hS)
theorem pr_aload_n (hA : pr_Am g X M d mc ms) {n : Fin 4} {x : Nat} (hd : decode M.2.1 pc = .ok (.aload_n n, 1)) (hg : ls[(n : Nat)]? = some (.ref x)) (k : pr_G g X nL Q cs sl (pc + 1) ls (.ref x :: st) T I L) : pr_G g X nL Q cs sl pc ls st T I L := by
  obtain ⟨p, l, e, R, s, m, args, below, meth, c⟩ := X
  intro H locs lsS hR hl hS
  exact lv_aload_n hA.1 hA.2.1 hd rfl (hl.get hg (fun q => nomatch q)) (k H locs lsS hR hl hS)
theorem pr_aload (hA : pr_Am g X M d mc ms) {i : Nat} {x : Nat} (hd : decode M.2.1 pc = .ok (.aload i, 2)) (hg : ls[i]? = some (.ref x)) (k : pr_G g X nL Q cs sl (pc + 2) ls (.ref x :: st) T I L) : pr_G g X nL Q cs sl pc ls st T I L := by
  obtain ⟨p, l, e, R, s, m, args, below, meth, c⟩ := X
  intro H locs lsS hR hl hS
  exact lv_aload hA.1 hA.2.1 hd (hl.get hg (fun q => nomatch q)) (k H locs lsS hR hl hS)
theorem pr_istore_n (hA : pr_Am g X M d mc ms) {n : Fin 4} {x : Int32} {ls' : List Value} (hd : decode M.2.1 pc = .ok (.istore_n n, 1)) (hn : (n : Nat) < nL) (he : pr_st1 ls (n : Nat) (.int x) = ls') (k : pr_G g X nL Q cs sl (pc + 1) ls' st T I L) : pr_G g X nL Q cs sl pc ls (.int x :: st) T I L := by
  subst he
  obtain ⟨p, l, e, R, s, m, args, below, meth, c⟩ := X
  intro H locs lsS hR hl hS
  exact lv_istore_n hA.1 hA.2.1 hd rfl hl.has hn rfl (fun ls2 h2 => k H locs ls2 hR (pr_lo_of1 h2) hS)
theorem pr_istore (hA : pr_Am g X M d mc ms) {i : Nat} {x : Int32} {ls' : List Value} (hd : decode M.2.1 pc = .ok (.istore i, 2)) (hn : i < nL) (he : pr_st1 ls i (.int x) = ls') (k : pr_G g X nL Q cs sl (pc + 2) ls' st T I L) : pr_G g X nL Q cs sl pc ls (.int x :: st) T I L := by
  subst he
  obtain ⟨p, l, e, R, s, m, args, below, meth, c⟩ := X
  intro H locs lsS hR hl hS
  exact lv_istore hA.1 hA.2.1 hd hl.has hn rfl (fun ls2 h2 => k H locs ls2 hR (pr_lo_of1 h2) hS)
theorem pr_lstore_n (hA : pr_Am g X M d mc ms) {n : Fin 4} {x : Int64} {ls' : List Value} (hd : decode M.2.1 pc = .ok (.lstore_n n, 1)) (hn : (n : Nat) + 1 < nL) (he : pr_st2 ls (n : Nat) (.long x) = ls') (k : pr_G g X nL Q cs sl (pc + 1) ls' st T I L) : pr_G g X nL Q cs sl pc ls (.long x :: st) T I L := by
  subst he
  obtain ⟨p, l, e, R, s, m, args, below, meth, c⟩ := X
  intro H locs lsS hR hl hS
  exact lv_lstore_n hA.1 hA.2.1 hd rfl hl.has hn rfl (fun ls2 h2 => k H locs ls2 hR (pr_lo_of2 h2) hS)
theorem pr_lstore (hA : pr_Am g X M d mc ms) {i : Nat} {x : Int64} {ls' : List Value} (hd : decode M.2.1 pc = .ok (.lstore i, 2)) (hn : i + 1 < nL) (he : pr_st2 ls i (.long x) = ls') (k : pr_G g X nL Q cs sl (pc + 2) ls' st T I L) : pr_G g X nL Q cs sl pc ls (.long x :: st) T I L := by
  subst he
  obtain ⟨p, l, e, R, s, m, args, below, meth, c⟩ := X
  intro H locs lsS hR hl hS
  exact lv_lstore hA.1 hA.2.1 hd hl.has hn rfl (fun ls2 h2 => k H locs ls2 hR (pr_lo_of2 h2) hS)
theorem pr_astore_n (hA : pr_Am g X M d mc ms) {n : Fin 4} {x : Nat} {ls' : List Value} (hd : decode M.2.1 pc = .ok (.astore_n n, 1)) (hn : (n : Nat) < nL) (he : pr_st1 ls (n : Nat) (.ref x) = ls') (k : pr_G g X nL Q cs sl (pc + 1) ls' st T I L) : pr_G g X nL Q cs sl pc ls (.ref x :: st) T I L := by
  subst he
  obtain ⟨p, l, e, R, s, m, args, below, meth, c⟩ := X
  intro H locs lsS hR hl hS
  exact lv_astore_n hA.1 hA.2.1 hd rfl hl.has hn rfl (fun ls2 h2 => k H locs ls2 hR (pr_lo_of1 h2) hS)
theorem pr_astore (hA : pr_Am g X M d mc ms) {i : Nat} {x : Nat} {ls' : List Value} (hd : decode M.2.1 pc = .ok (.astore i, 2)) (hn : i < nL) (he : pr_st1 ls i (.ref x) = ls') (k : pr_G g X nL Q cs sl (pc + 2) ls' st T I L) : pr_G g X nL Q cs sl pc ls (.ref x :: st) T I L := by
  subst he
  obtain ⟨p, l, e, R, s, m, args, below, meth, c⟩ := X
  intro H locs lsS hR hl hS
  exact lv_astore hA.1 hA.2.1 hd hl.has hn rfl (fun ls2 h2 => k H locs ls2 hR (pr_lo_of1 h2) hS)
theorem pr_iinc (hA : pr_Am g X M d mc ms) {i : Nat} {n : Int} {x : Int32} (y : Int32) {ls' : List Value} (hd : decode M.2.1 pc = .ok (.iinc i n, 3)) (hn : i < nL) (hg : ls[i]? = some (.int x)) (hy : x + Int32.ofInt n = y) (he : pr_st1 ls i (.int y) = ls') (k : pr_G g X nL Q cs sl (pc + 3) ls' st T I L) : pr_G g X nL Q cs sl pc ls st T I L := by
  subst he
  obtain ⟨p, l, e, R, s, m, args, below, meth, c⟩ := X
  intro H locs lsS hR hl hS
  obtain ⟨k0, hk0⟩ := List.getElem?_of_mem ((pr_as_mem ls 0 i (.int x)).mpr ⟨Nat.zero_le _, by simpa using hg, rfl⟩)
  exact lv_iinc hA.1 hA.2.1 hd hl.has hk0 hy hn rfl (fun ls2 h2 => k H locs ls2 hR (pr_lo_of1 h2) hS)
theorem pr_iadd (hA : pr_Am g X M d mc ms) {x y : Int32} (hd : decode M.2.1 pc = .ok (.iadd, 1)) (k : pr_G g X nL Q cs sl (pc + 1) ls (.int (x + y) :: st) T I L) : pr_G g X nL Q cs sl pc ls (.int y :: .int x :: st) T I L := by
  obtain ⟨p, l, e, R, s, m, args, below, meth, c⟩ := X
  intro H locs lsS hR hl hS
  exact lv_iadd hA.1 hA.2.1 hd (k H locs lsS hR hl hS)
theorem pr_isub (hA : pr_Am g X M d mc ms) {x y : Int32} (hd : decode M.2.1 pc = .ok (.isub, 1)) (k : pr_G g X nL Q cs sl (pc + 1) ls (.int (x - y) :: st) T I L) : pr_G g X nL Q cs sl pc ls (.int y :: .int x :: st) T I L := by
  obtain ⟨p, l, e, R, s, m, args, below, meth, c⟩ := X
  intro H locs lsS hR hl hS
  exact lv_isub hA.1 hA.2.1 hd (k H locs lsS hR hl hS)
theorem pr_imul (hA : pr_Am g X M d mc ms) {x y : Int32} (hd : decode M.2.1 pc = .ok (.imul, 1)) (k : pr_G g X nL Q cs sl (pc + 1) ls (.int (x * y) :: st) T I L) : pr_G g X nL Q cs sl pc ls (.int y :: .int x :: st) T I L := by
  obtain ⟨p, l, e, R, s, m, args, below, meth, c⟩ := X
  intro H locs lsS hR hl hS
  exact lv_imul hA.1 hA.2.1 hd (k H locs lsS hR hl hS)
theorem pr_iand (hA : pr_Am g X M d mc ms) {x y : Int32} (hd : decode M.2.1 pc = .ok (.iand, 1)) (k : pr_G g X nL Q cs sl (pc + 1) ls (.int (x &&& y) :: st) T I L) : pr_G g X nL Q cs sl pc ls (.int y :: .int x :: st) T I L := by
  obtain ⟨p, l, e, R, s, m, args, below, meth, c⟩ := X
  intro H locs lsS hR hl hS
  exact lv_iand hA.1 hA.2.1 hd (k H locs lsS hR hl hS)
theorem pr_ior (hA : pr_Am g X M d mc ms) {x y : Int32} (hd : decode M.2.1 pc = .ok (.ior, 1)) (k : pr_G g X nL Q cs sl (pc + 1) ls (.int (x ||| y) :: st) T I L) : pr_G g X nL Q cs sl pc ls (.int y :: .int x :: st) T I L := by
  obtain ⟨p, l, e, R, s, m, args, below, meth, c⟩ := X
  intro H locs lsS hR hl hS
  exact lv_ior hA.1 hA.2.1 hd (k H locs lsS hR hl hS)
theorem pr_ixor (hA : pr_Am g X M d mc ms) {x y : Int32} (hd : decode M.2.1 pc = .ok (.ixor, 1)) (k : pr_G g X nL Q cs sl (pc + 1) ls (.int (x ^^^ y) :: st) T I L) : pr_G g X nL Q cs sl pc ls (.int y :: .int x :: st) T I L := by
  obtain ⟨p, l, e, R, s, m, args, below, meth, c⟩ := X
  intro H locs lsS hR hl hS
  exact lv_ixor hA.1 hA.2.1 hd (k H locs lsS hR hl hS)
theorem pr_ishl (hA : pr_Am g X M d mc ms) {x y : Int32} (hd : decode M.2.1 pc = .ok (.ishl, 1)) (k : pr_G g X nL Q cs sl (pc + 1) ls (.int (x <<< (y &&& 31)) :: st) T I L) : pr_G g X nL Q cs sl pc ls (.int y :: .int x :: st) T I L := by
  obtain ⟨p, l, e, R, s, m, args, below, meth, c⟩ := X
  intro H locs lsS hR hl hS
  exact lv_ishl hA.1 hA.2.1 hd (k H locs lsS hR hl hS)
theorem pr_ishr (hA : pr_Am g X M d mc ms) {x y : Int32} (hd : decode M.2.1 pc = .ok (.ishr, 1)) (k : pr_G g X nL Q cs sl (pc + 1) ls (.int (x >>> (y &&& 31)) :: st) T I L) : pr_G g X nL Q cs sl pc ls (.int y :: .int x :: st) T I L := by
  obtain ⟨p, l, e, R, s, m, args, below, meth, c⟩ := X
  intro H locs lsS hR hl hS
  exact lv_ishr hA.1 hA.2.1 hd (k H locs lsS hR hl hS)
theorem pr_idiv (hA : pr_Am g X M d mc ms) {x y : Int32} (hd : decode M.2.1 pc = .ok (.idiv, 1)) (hne : ¬ y = 0) (k : pr_G g X nL Q cs sl (pc + 1) ls (.int (x / y) :: st) T I L) : pr_G g X nL Q cs sl pc ls (.int y :: .int x :: st) T I L := by
  obtain ⟨p, l, e, R, s, m, args, below, meth, c⟩ := X
  intro H locs lsS hR hl hS
  exact lv_idiv hA.1 hA.2.1 hd hne (k H locs lsS hR hl hS)
theorem pr_ineg (hA : pr_Am g X M d mc ms) {x : Int32} (hd : decode M.2.1 pc = .ok (.ineg, 1)) (k : pr_G g X nL Q cs sl (pc + 1) ls (.int (-x) :: st) T I L) : pr_G g X nL Q cs sl pc ls (.int x :: st) T I L := by
  obtain ⟨p, l, e, R, s, m, args, below, meth, c⟩ := X
  intro H locs lsS hR hl hS
  exact lv_ineg hA.1 hA.2.1 hd (k H locs lsS hR hl hS)
theorem pr_ladd (hA : pr_Am g X M d mc ms) {x y : Int64} (hd : decode M.2.1 pc = .ok (.ladd, 1)) (k : pr_G g X nL Q cs sl (pc + 1) ls (.long (x + y) :: st) T I L) : pr_G g X nL Q cs sl pc ls (.long y :: .long x :: st) T I L := by
  obtain ⟨p, l, e, R, s, m, args, below, meth, c⟩ := X
  intro H locs lsS hR hl hS
  exact lv_ladd hA.1 hA.2.1 hd (k H locs lsS hR hl hS)
theorem pr_lsub (hA : pr_Am g X M d mc ms) {x y : Int64} (hd : decode M.2.1 pc = .ok (.lsub, 1)) (k : pr_G g X nL Q cs sl (pc + 1) ls (.long (x - y) :: st) T I L) : pr_G g X nL Q cs sl pc ls (.long y :: .long x :: st) T I L := by
  obtain ⟨p, l, e, R, s, m, args, below, meth, c⟩ := X
  intro H locs lsS hR hl hS
  exact lv_lsub hA.1 hA.2.1 hd (k H locs lsS hR hl hS)
theorem pr_lmul (hA : pr_Am g X M d mc ms) {x y : Int64} (hd : decode M.2.1 pc = .ok (.lmul, 1)) (k : pr_G g X nL Q cs sl (pc + 1) ls (.long (x * y) :: st) T I L) : pr_G g X nL Q cs sl pc ls (.long y :: .long x :: st) T I L := by
  obtain ⟨p, l, e, R, s, m, args, below, meth, c⟩ := X
  intro H locs lsS hR hl hS
  exact lv_lmul hA.1 hA.2.1 hd (k H locs lsS hR hl hS)
theorem pr_land (hA : pr_Am g X M d mc ms) {x y : Int64} (hd : decode M.2.1 pc = .ok (.land, 1)) (k : pr_G g X nL Q cs sl (pc + 1) ls (.long (x &&& y) :: st) T I L) : pr_G g X nL Q cs sl pc ls (.long y :: .long x :: st) T I L := by
  obtain ⟨p, l, e, R, s, m, args, below, meth, c⟩ := X
  intro H locs lsS hR hl hS
  exact lv_land hA.1 hA.2.1 hd (k H locs lsS hR hl hS)
theorem pr_lor (hA : pr_Am g X M d mc ms) {x y : Int64} (hd : decode M.2.1 pc = .ok (.lor, 1)) (k : pr_G g X nL Q cs sl (pc + 1) ls (.long (x ||| y) :: st) T I L) : pr_G g X nL Q cs sl pc ls (.long y :: .long x :: st) T I L := by
  obtain ⟨p, l, e, R, s, m, args, below, meth, c⟩ := X
  intro H locs lsS hR hl hS
  exact lv_lor hA.1 hA.2.1 hd (k H locs lsS hR hl hS)
theorem pr_ldiv (hA : pr_Am g X M d mc ms) {x y : Int64} (hd : decode M.2.1 pc = .ok (.ldiv, 1)) (hne : ¬ y = 0) (k : pr_G g X nL Q cs sl (pc + 1) ls (.long (x / y) :: st) T I L) : pr_G g X nL Q cs sl pc ls (.long y :: .long x :: st) T I L := by
  obtain ⟨p, l, e, R, s, m, args, below, meth, c⟩ := X
  intro H locs lsS hR hl hS
  exact lv_ldiv hA.1 hA.2.1 hd hne (k H locs lsS hR hl hS)
theorem pr_lushr (hA : pr_Am g X M d mc ms) {x : Int64} {y : Int32} (hd : decode M.2.1 pc = .ok (.lushr, 1)) (k : pr_G g X nL Q cs sl (pc + 1) ls (.long (x.toUInt64 >>> (y.toInt64.toUInt64 &&& Int64.toUInt64 63)).toInt64 :: st) T I L) : pr_G g X nL Q cs sl pc ls (.int y :: .long x :: st) T I L := by
  obtain ⟨p, l, e, R, s, m, args, below, meth, c⟩ := X
  intro H locs lsS hR hl hS
  exact lv_lushr hA.1 hA.2.1 hd rfl (k H locs lsS hR hl hS)
theorem pr_lshl (hA : pr_Am g X M d mc ms) {x : Int64} {y : Int32} (hd : decode M.2.1 pc = .ok (.lshl, 1)) (k : pr_G g X nL Q cs sl (pc + 1) ls (.long (x <<< (y.toInt64 &&& 63)) :: st) T I L) : pr_G g X nL Q cs sl pc ls (.int y :: .long x :: st) T I L := by
  obtain ⟨p, l, e, R, s, m, args, below, meth, c⟩ := X
  intro H locs lsS hR hl hS
  exact lv_lshl hA.1 hA.2.1 hd rfl (k H locs lsS hR hl hS)
theorem pr_i2l (hA : pr_Am g X M d mc ms) {x : Int32} (hd : decode M.2.1 pc = .ok (.i2l, 1)) (k : pr_G g X nL Q cs sl (pc + 1) ls (.long x.toInt64 :: st) T I L) : pr_G g X nL Q cs sl pc ls (.int x :: st) T I L := by
  obtain ⟨p, l, e, R, s, m, args, below, meth, c⟩ := X
  intro H locs lsS hR hl hS
  exact lv_i2l hA.1 hA.2.1 hd rfl (k H locs lsS hR hl hS)
theorem pr_l2i (hA : pr_Am g X M d mc ms) {x : Int64} (hd : decode M.2.1 pc = .ok (.l2i, 1)) (k : pr_G g X nL Q cs sl (pc + 1) ls (.int x.toInt32 :: st) T I L) : pr_G g X nL Q cs sl pc ls (.long x :: st) T I L := by
  obtain ⟨p, l, e, R, s, m, args, below, meth, c⟩ := X
  intro H locs lsS hR hl hS
  exact lv_l2i hA.1 hA.2.1 hd rfl (k H locs lsS hR hl hS)
theorem pr_i2b (hA : pr_Am g X M d mc ms) {x : Int32} (hd : decode M.2.1 pc = .ok (.i2b, 1)) (k : pr_G g X nL Q cs sl (pc + 1) ls (.int x.toInt8.toInt32 :: st) T I L) : pr_G g X nL Q cs sl pc ls (.int x :: st) T I L := by
  obtain ⟨p, l, e, R, s, m, args, below, meth, c⟩ := X
  intro H locs lsS hR hl hS
  exact lv_i2b hA.1 hA.2.1 hd rfl (k H locs lsS hR hl hS)
theorem pr_i2c (hA : pr_Am g X M d mc ms) {x : Int32} (hd : decode M.2.1 pc = .ok (.i2c, 1)) (k : pr_G g X nL Q cs sl (pc + 1) ls (.int (x.toUInt32 % 65536).toInt32 :: st) T I L) : pr_G g X nL Q cs sl pc ls (.int x :: st) T I L := by
  obtain ⟨p, l, e, R, s, m, args, below, meth, c⟩ := X
  intro H locs lsS hR hl hS
  exact lv_i2c hA.1 hA.2.1 hd rfl (k H locs lsS hR hl hS)
theorem pr_dup (hA : pr_Am g X M d mc ms) {v : Value} (hd : decode M.2.1 pc = .ok (.dup, 1)) (hv : v.category = 1) (k : pr_G g X nL Q cs sl (pc + 1) ls (v :: v :: st) T I L) : pr_G g X nL Q cs sl pc ls (v :: st) T I L := by
  obtain ⟨p, l, e, R, s, m, args, below, meth, c⟩ := X
  intro H locs lsS hR hl hS
  exact lv_dup hA.1 hA.2.1 hd hv (k H locs lsS hR hl hS)
theorem pr_pop (hA : pr_Am g X M d mc ms) {v : Value} (hd : decode M.2.1 pc = .ok (.pop, 1)) (hv : v.category = 1) (k : pr_G g X nL Q cs sl (pc + 1) ls st T I L) : pr_G g X nL Q cs sl pc ls (v :: st) T I L := by
  obtain ⟨p, l, e, R, s, m, args, below, meth, c⟩ := X
  intro H locs lsS hR hl hS
  exact lv_pop hA.1 hA.2.1 hd hv (k H locs lsS hR hl hS)
theorem pr_dup2 (hA : pr_Am g X M d mc ms) {v w : Value} (hd : decode M.2.1 pc = .ok (.dup2, 1)) (hv : v.category = 1) (hw : w.category = 1) (k : pr_G g X nL Q cs sl (pc + 1) ls (v :: w :: v :: w :: st) T I L) : pr_G g X nL Q cs sl pc ls (v :: w :: st) T I L := by
  obtain ⟨p, l, e, R, s, m, args, below, meth, c⟩ := X
  intro H locs lsS hR hl hS
  exact lv_dup2_11 hA.1 hA.2.1 hd hv hw (k H locs lsS hR hl hS)
theorem pr_goto (hA : pr_Am g X M d mc ms) {off : Int} (tgt : Nat) (hd : decode M.2.1 pc = .ok (.goto off, 3)) (ht : (pc : Int) + off = (tgt : Int)) (k : pr_G g X nL Q cs sl tgt ls st T I L) : pr_G g X nL Q cs sl pc ls st T I L := by
  obtain ⟨p, l, e, R, s, m, args, below, meth, c⟩ := X
  intro H locs lsS hR hl hS
  exact lv_goto hA.1 hA.2.1 hd ht (k H locs lsS hR hl hS)
theorem pr_if_eq (hA : pr_Am g X M d mc ms) {x : Int32} {off : Int} (tgt : Nat) (hd : decode M.2.1 pc = .ok (.ifCond .eq off, 3)) (ht : (pc : Int) + off = (tgt : Int)) (kt : x = 0 → pr_G g X nL Q cs sl tgt ls st T I L) (kf : ¬ x = 0 → pr_G g X nL Q cs sl (pc + 3) ls st T I L) : pr_G g X nL Q cs sl pc ls (.int x :: st) T I L := by
  obtain ⟨p, l, e, R, s, m, args, below, meth, c⟩ := X
  intro H locs lsS hR hl hS
  exact lv_if_eq hA.1 hA.2.1 hd ht (fun q => kt q H locs lsS hR hl hS) (fun q => kf q H locs lsS hR hl hS)
theorem pr_icmp_eq (hA : pr_Am g X M d mc ms) {x y : Int32} {off : Int} (tgt : Nat) (hd : decode M.2.1 pc = .ok (.if_icmp .eq off, 3)) (ht : (pc : Int) + off = (tgt : Int)) (kt : x = y → pr_G g X nL Q cs sl tgt ls st T I L) (kf : ¬ x = y → pr_G g X nL Q cs sl (pc + 3) ls st T I L) : pr_G g X nL Q cs sl pc ls (.int y :: .int x :: st) T I L := by
  obtain ⟨p, l, e, R, s, m, args, below, meth, c⟩ := X
  intro H locs lsS hR hl hS
  exact lv_icmp_eq hA.1 hA.2.1 hd ht (fun q => kt q H locs lsS hR hl hS) (fun q => kf q H locs lsS hR hl hS)
theorem pr_if_ne (hA : pr_Am g X M d mc ms) {x : Int32} {off : Int} (tgt : Nat) (hd : decode M.2.1 pc = .ok (.ifCond .ne off, 3)) (ht : (pc : Int) + off = (tgt : Int)) (kt : ¬ x = 0 → pr_G g X nL Q cs sl tgt ls st T I L) (kf : x = 0 → pr_G g X nL Q cs sl (pc + 3) ls st T I L) : pr_G g X nL Q cs sl pc ls (.int x :: st) T I L := by
  obtain ⟨p, l, e, R, s, m, args, below, meth, c⟩ := X
  intro H locs lsS hR hl hS
  exact lv_if_ne hA.1 hA.2.1 hd ht (fun q => kt q H locs lsS hR hl hS) (fun q => kf q H locs lsS hR hl hS)
theorem pr_icmp_ne (hA : pr_Am g X M d mc ms) {x y : Int32} {off : Int} (tgt : Nat) (hd : decode M.2.1 pc = .ok (.if_icmp .ne off, 3)) (ht : (pc : Int) + off = (tgt : Int)) (kt : ¬ x = y → pr_G g X nL Q cs sl tgt ls st T I L) (kf : x = y → pr_G g X nL Q cs sl (pc + 3) ls st T I L) : pr_G g X nL Q cs sl pc ls (.int y :: .int x :: st) T I L := by
  obtain ⟨p, l, e, R, s, m, args, below, meth, c⟩ := X
  intro H locs lsS hR hl hS
  exact lv_icmp_ne hA.1 hA.2.1 hd ht (fun q => kt q H locs lsS hR hl hS) (fun q => kf q H locs lsS hR hl hS)
theorem pr_if_lt (hA : pr_Am g X M d mc ms) {x : Int32} {off : Int} (tgt : Nat) (hd : decode M.2.1 pc = .ok (.ifCond .lt off, 3)) (ht : (pc : Int) + off = (tgt : Int)) (kt : x < 0 → pr_G g X nL Q cs sl tgt ls st T I L) (kf : ¬ x < 0 → pr_G g X nL Q cs sl (pc + 3) ls st T I L) : pr_G g X nL Q cs sl pc ls (.int x :: st) T I L := by
  obtain ⟨p, l, e, R, s, m, args, below, meth, c⟩ := X
  intro H locs lsS hR hl hS
  exact lv_if_lt hA.1 hA.2.1 hd ht (fun q => kt q H locs lsS hR hl hS) (fun q => kf q H locs lsS hR hl hS)
theorem pr_icmp_lt (hA : pr_Am g X M d mc ms) {x y : Int32} {off : Int} (tgt : Nat) (hd : decode M.2.1 pc = .ok (.if_icmp .lt off, 3)) (ht : (pc : Int) + off = (tgt : Int)) (kt : x < y → pr_G g X nL Q cs sl tgt ls st T I L) (kf : ¬ x < y → pr_G g X nL Q cs sl (pc + 3) ls st T I L) : pr_G g X nL Q cs sl pc ls (.int y :: .int x :: st) T I L := by
  obtain ⟨p, l, e, R, s, m, args, below, meth, c⟩ := X
  intro H locs lsS hR hl hS
  exact lv_icmp_lt hA.1 hA.2.1 hd ht (fun q => kt q H locs lsS hR hl hS) (fun q => kf q H locs lsS hR hl hS)
theorem pr_if_ge (hA : pr_Am g X M d mc ms) {x : Int32} {off : Int} (tgt : Nat) (hd : decode M.2.1 pc = .ok (.ifCond .ge off, 3)) (ht : (pc : Int) + off = (tgt : Int)) (kt : 0 ≤ x → pr_G g X nL Q cs sl tgt ls st T I L) (kf : ¬ 0 ≤ x → pr_G g X nL Q cs sl (pc + 3) ls st T I L) : pr_G g X nL Q cs sl pc ls (.int x :: st) T I L := by
  obtain ⟨p, l, e, R, s, m, args, below, meth, c⟩ := X
  intro H locs lsS hR hl hS
  exact lv_if_ge hA.1 hA.2.1 hd ht (fun q => kt q H locs lsS hR hl hS) (fun q => kf q H locs lsS hR hl hS)
theorem pr_icmp_ge (hA : pr_Am g X M d mc ms) {x y : Int32} {off : Int} (tgt : Nat) (hd : decode M.2.1 pc = .ok (.if_icmp .ge off, 3)) (ht : (pc : Int) + off = (tgt : Int)) (kt : y ≤ x → pr_G g X nL Q cs sl tgt ls st T I L) (kf : ¬ y ≤ x → pr_G g X nL Q cs sl (pc + 3) ls st T I L) : pr_G g X nL Q cs sl pc ls (.int y :: .int x :: st) T I L := by
  obtain ⟨p, l, e, R, s, m, args, below, meth, c⟩ := X
  intro H locs lsS hR hl hS
  exact lv_icmp_ge hA.1 hA.2.1 hd ht (fun q => kt q H locs lsS hR hl hS) (fun q => kf q H locs lsS hR hl hS)
theorem pr_if_gt (hA : pr_Am g X M d mc ms) {x : Int32} {off : Int} (tgt : Nat) (hd : decode M.2.1 pc = .ok (.ifCond .gt off, 3)) (ht : (pc : Int) + off = (tgt : Int)) (kt : 0 < x → pr_G g X nL Q cs sl tgt ls st T I L) (kf : ¬ 0 < x → pr_G g X nL Q cs sl (pc + 3) ls st T I L) : pr_G g X nL Q cs sl pc ls (.int x :: st) T I L := by
  obtain ⟨p, l, e, R, s, m, args, below, meth, c⟩ := X
  intro H locs lsS hR hl hS
  exact lv_if_gt hA.1 hA.2.1 hd ht (fun q => kt q H locs lsS hR hl hS) (fun q => kf q H locs lsS hR hl hS)
theorem pr_icmp_gt (hA : pr_Am g X M d mc ms) {x y : Int32} {off : Int} (tgt : Nat) (hd : decode M.2.1 pc = .ok (.if_icmp .gt off, 3)) (ht : (pc : Int) + off = (tgt : Int)) (kt : y < x → pr_G g X nL Q cs sl tgt ls st T I L) (kf : ¬ y < x → pr_G g X nL Q cs sl (pc + 3) ls st T I L) : pr_G g X nL Q cs sl pc ls (.int y :: .int x :: st) T I L := by
  obtain ⟨p, l, e, R, s, m, args, below, meth, c⟩ := X
  intro H locs lsS hR hl hS
  exact lv_icmp_gt hA.1 hA.2.1 hd ht (fun q => kt q H locs lsS hR hl hS) (fun q => kf q H locs lsS hR hl hS)
theorem pr_if_le (hA : pr_Am g X M d mc ms) {x : Int32} {off : Int} (tgt : Nat) (hd : decode M.2.1 pc = .ok (.ifCond .le off, 3)) (ht : (pc : Int) + off = (tgt : Int)) (kt : x ≤ 0 → pr_G g X nL Q cs sl tgt ls st T I L) (kf : ¬ x ≤ 0 → pr_G g X nL Q cs sl (pc + 3) ls st T I L) : pr_G g X nL Q cs sl pc ls (.int x :: st) T I L := by
  obtain ⟨p, l, e, R, s, m, args, below, meth, c⟩ := X
  intro H locs lsS hR hl hS
  exact lv_if_le hA.1 hA.2.1 hd ht (fun q => kt q H locs lsS hR hl hS) (fun q => kf q H locs lsS hR hl hS)
theorem pr_icmp_le (hA : pr_Am g X M d mc ms) {x y : Int32} {off : Int} (tgt : Nat) (hd : decode M.2.1 pc = .ok (.if_icmp .le off, 3)) (ht : (pc : Int) + off = (tgt : Int)) (kt : x ≤ y → pr_G g X nL Q cs sl tgt ls st T I L) (kf : ¬ x ≤ y → pr_G g X nL Q cs sl (pc + 3) ls st T I L) : pr_G g X nL Q cs sl pc ls (.int y :: .int x :: st) T I L := by
  obtain ⟨p, l, e, R, s, m, args, below, meth, c⟩ := X
  intro H locs lsS hR hl hS
  exact lv_icmp_le hA.1 hA.2.1 hd ht (fun q => kt q H locs lsS hR hl hS) (fun q => kf q H locs lsS hR hl hS)
theorem pr_lcmp (hA : pr_Am g X M d mc ms) {x y : Int64} (hd : decode M.2.1 pc = .ok (.lcmp, 1)) (k : pr_G g X nL Q cs sl (pc + 1) ls (.int (lg_cmp x y) :: st) T I L) : pr_G g X nL Q cs sl pc ls (.long y :: .long x :: st) T I L := by
  obtain ⟨p, l, e, R, s, m, args, below, meth, c⟩ := X
  intro H locs lsS hR hl hS
  exact W.lcmp hA.1 hA.2.1 hd (k H locs lsS hR hl hS)
theorem pr_ifnonnull (hA : pr_Am g X M d mc ms) {x : Option Nat} {off : Int} (tgt : Nat) (hd : decode M.2.1 pc = .ok (.ifnonnull off, 3)) (ht : (pc : Int) + off = (tgt : Int)) (kt : ∀ a, x = some a → pr_G g X nL Q cs sl tgt ls st T I L) (kf : x = none → pr_G g X nL Q cs sl (pc + 3) ls st T I L) : pr_G g X nL Q cs sl pc ls (va_rf x :: st) T I L := by
  obtain ⟨p, l, e, R, s, m, args, below, meth, c⟩ := X
  intro H locs lsS hR hl hS
  cases x with
  | none => exact lv_ifnonnullN hA.1 hA.2.1 hd (kf rfl H locs lsS hR hl hS)
  | some a => exact lv_ifnonnull hA.1 hA.2.1 hd ht (kt a rfl H locs lsS hR hl hS)
theorem pr_tableOut (hA : pr_Am g X M d mc ms) {dflt lo hi : Int} {offs : Array Int} {len : Nat} {x : Int32} (tgt : Nat) (hd : decode M.2.1 pc = .ok (.tableswitch dflt lo hi offs, len)) (h : x.toInt < lo ∨ hi < x.toInt) (ht : (pc : Int) + dflt = (tgt : Int)) (k : pr_G g X nL Q cs sl tgt ls st T I L) : pr_G g X nL Q cs sl pc ls (.int x :: st) T I L := by
  obtain ⟨p, l, e, R, s, m, args, below, meth, c⟩ := X
  intro H locs lsS hR hl hS
  exact lv_tableOut hA.1 hA.2.1 hd h ht (k H locs lsS hR hl hS)
theorem pr_tableIn (hA : pr_Am g X M d mc ms) {dflt lo hi : Int} {offs : Array Int} {len : Nat} {x : Int32} {off : Int} (tgt : Nat) (hd : decode M.2.1 pc = .ok (.tableswitch dflt lo hi offs, len)) (h1 : ¬ x.toInt < lo) (h2 : ¬ hi < x.toInt) (ho : offs[(x.toInt - lo).toNat]? = some off) (ht : (pc : Int) + off = (tgt : Int)) (k : pr_G g X nL Q cs sl tgt ls st T I L) : pr_G g X nL Q cs sl pc ls (.int x :: st) T I L := by
  obtain ⟨p, l, e, R, s, m, args, below, meth, c⟩ := X
  intro H locs lsS hR hl hS
  exact lv_tableIn hA.1 hA.2.1 hd h1 h2 ho ht (k H locs lsS hR hl hS)
theorem pr_lookup (hA : pr_Am g X M d mc ms) {dflt : Int} {ps : Array (Int × Int)} {len : Nat} {x : Int32} {off : Int} (tgt : Nat) (hd : decode M.2.1 pc = .ok (.lookupswitch dflt ps, len)) (hp : (ps.toList.zip (ps.toList.drop 1)).all (fun (a, next) => a.1 < next.1) = true) (ho : Op.lookupswitch.offset ps.toList dflt x.toInt = off) (ht : (pc : Int) + off = (tgt : Int)) (k : pr_G g X nL Q cs sl tgt ls st T I L) : pr_G g X nL Q cs sl pc ls (.int x :: st) T I L := by
  obtain ⟨p, l, e, R, s, m, args, below, meth, c⟩ := X
  intro H locs lsS hR hl hS
  exact lv_lookup hA.1 hA.2.1 hd hp ho ht (k H locs lsS hR hl hS)
theorem pr_ldc (hA : pr_Am g X M d mc ms) {index : Nat} {v : Int32} (hk : Cond.constant M.1.cls index v ∈ pr_gw) (hd : decode M.2.1 pc = .ok (.ldc index, 2)) (k : pr_G g X nL Q cs sl (pc + 2) ls (.int v :: st) T I L) : pr_G g X nL Q cs sl pc ls st T I L := by
  obtain ⟨p, l, e, R, s, m, args, below, meth, c⟩ := X
  intro H locs lsS hR hl hS
  exact lv_ldc hA.1 hA.2.1 hA.2.2.2.1 (hA.2.2.2.2.1 _ hk) hd (k H locs lsS hR hl hS)
theorem pr_ldcw (hA : pr_Am g X M d mc ms) {index : Nat} {v : Int32} (hk : Cond.constant M.1.cls index v ∈ pr_gw) (hd : decode M.2.1 pc = .ok (.ldc_w index, 3)) (k : pr_G g X nL Q cs sl (pc + 3) ls (.int v :: st) T I L) : pr_G g X nL Q cs sl pc ls st T I L := by
  obtain ⟨p, l, e, R, s, m, args, below, meth, c⟩ := X
  intro H locs lsS hR hl hS
  exact lv_ldcw hA.1 hA.2.1 hA.2.2.2.1 (hA.2.2.2.2.1 _ hk) hd (k H locs lsS hR hl hS)
theorem pr_ldc2 (hA : pr_Am g X M d mc ms) {index : Nat} {v : Int64} (hk : Cond.constantLong M.1.cls index v ∈ pr_gw) (hd : decode M.2.1 pc = .ok (.ldc2_w index, 3)) (k : pr_G g X nL Q cs sl (pc + 3) ls (.long v :: st) T I L) : pr_G g X nL Q cs sl pc ls st T I L := by
  obtain ⟨p, l, e, R, s, m, args, below, meth, c⟩ := X
  intro H locs lsS hR hl hS
  exact lv_ldc2 hA.1 hA.2.1 hA.2.2.2.1 (hA.2.2.2.2.1 _ hk) hd (k H locs lsS hR hl hS)
theorem pr_topi {x : Int32} (k : ∀ y : Int32, y = x → pr_G g X nL Q cs sl pc ls (.int y :: st) T I L) : pr_G g X nL Q cs sl pc ls (.int x :: st) T I L := k x rfl
theorem pr_widen {cs' sl' : Nat} (h1 : cs ≤ cs') (h2 : sl ≤ sl') (k : pr_G g X nL Q cs' sl' pc ls st T I L) : pr_G g X nL Q cs sl pc ls st T I L := by
  obtain ⟨p, l, e, R, s, m, args, below, meth, c⟩ := X
  intro H locs lsS hR hl hS
  exact W.widen h1 h2 (k H locs lsS hR hl hS)
/-- fewer things known of the locals -/
theorem pr_less {ls' : List Value} (h : ∀ (i : Nat) (v : Value), ls'[i]? = some v → v ≠ .null → ls[i]? = some v) (k : pr_G g X nL Q cs sl pc ls' st T I L) : pr_G g X nL Q cs sl pc ls st T I L := by
  obtain ⟨p, l, e, R, s, m, args, below, meth, c⟩ := X
  intro H locs lsS hR hl hS
  exact k H locs lsS hR ⟨hl.1, hl.2.1, fun i v hi hv => hl.2.2 i v (h i v hi hv) hv⟩ hS
/-- the same world, told otherwise -/
theorem pr_same {T' : pr_T} {I' : pr_I} {L' : pr_L} (h : ∀ H, pr_Rep g T I L H → pr_Rep g T' I' L' H) (k : pr_G g X nL Q cs sl pc ls st T' I' L') : pr_G g X nL Q cs sl pc ls st T I L := by
  obtain ⟨p, l, e, R, s, m, args, below, meth, c⟩ := X
  intro H locs lsS hR hl hS
  exact k H locs lsS (h H hR) hl hS
end PRR
