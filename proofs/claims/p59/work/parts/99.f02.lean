/-! int[n][m] IN ONE INSTRUCTION: the step -/
theorem mu_osz {cA : ClassId} {n h i : Nat} : (mu_o cA n h i).slots.size = n := by simp [mu_o, arrV]
theorem mu_isz {cC : ClassId} {m : Nat} : (mu_i cC m).slots.size = m := by simp [mu_i, arrV]
theorem mu_top (T : State) (f : JFrame) (cA cC : ClassId) (n m : Nat) : ∀ i, mu_T (T.setTop f) cA cC n m i = (mu_T T cA cC n m i).setTop f
  | 0 => by
    show (T.setTop f).pushCell (mu_o cA n (T.setTop f).heap.size 0) = (T.pushCell (mu_o cA n T.heap.size 0)).setTop f
    rw [State.heap_setTop]; rfl
  | i + 1 => by
    show ((mu_T (T.setTop f) cA cC n m i).pushCell (mu_i cC m)).setCell (T.setTop f).heap.size (mu_o cA n (T.setTop f).heap.size (i + 1)) = _
    rw [mu_top T f cA cC n m i, State.heap_setTop]; rfl
section MUS
variable {p : Program} {l : Launch} {e : Env} {R : Room} {s : State} {m : MethodId} {args : Array Value} {below : List Frame} {meth : Method} {c : Code} {T : State} {locs : List Loc} {cells slots : Nat} {H : Heap} {Q : State → Prop}
/-- the places written on the way -/
def mu_l (h i : Nat) : List Loc := (List.range i).map fun j => ⟨h, j⟩
theorem mu_l_s {h i : Nat} : mu_l h (i + 1) = mu_l h i ++ [⟨h, i⟩] := by unfold mu_l; rw [List.range_succ, List.map_append]; rfl
theorem mu_stand (X : Stand p l e R s m args below meth c T locs cells slots) (cA cC : ClassId) (N M : Nat) : ∀ i, Stand p l e R s m args below meth c (mu_T T cA cC N M i) (locs ++ mu_l T.heap.size i) (cells + 1 + i) (slots + N + i * M)
  | 0 => by
    have h := X.pushed (mu_o cA N T.heap.size 0)
    rw [mu_osz] at h
    have e1 : locs ++ mu_l T.heap.size 0 = locs := List.append_nil _
    rw [e1, Nat.zero_mul]
    exact h
  | i + 1 => by
    obtain ⟨f1, f2, -, -, -, -⟩ := mu_f T cA cC N M i
    have hlt : T.heap.size < (mu_T T cA cC N M i).heap.size := by omega
    have hc : ((mu_T T cA cC N M i).pushCell (mu_i cC M)).heap[T.heap.size]? = some (mu_o cA N T.heap.size i) := by rw [State.heap_pushCell_of_lt (h := hlt)]; exact f2
    have h := ((mu_stand X cA cC N M i).pushed (mu_i cC M)).stored hc i (.ref (T.heap.size + 1 + i))
    rw [mu_isz, mu_o_up, List.append_assoc, ← mu_l_s] at h
    have e3 : slots + N + (i + 1) * M = slots + N + i * M + M := by rw [Nat.succ_mul]; omega
    rw [e3]
    exact h
theorem mu_step (X : Stand p l e R s m args below meth c T locs cells slots) (hexec : p.tables.exec = Jvm.exec) {own : String} {index : Nat} (hown : s.vm.findClass own = some m.cls) (hclink : (Cond.classLink own index "[[I").before args s = true)
    {kA kC : Class} {comp cA cc : ClassId} (a1 : s.vm.findClass "[[I" = some cA) (a2 : s.vm.classes[cA]? = some kA) (a3 : kA.kind = .array comp (.array .int)) (a5 : s.vm.classes[comp]? = some kC) (a6 : kC.kind = .array cc .int)
    {g : JFrame} (hg : g.method = m) (hdg : decode c.code g.pc = .ok (.multianewarray index 2, 4)) {n k : Int32} {rest : List Value} (hstack : g.stack = .int k :: .int n :: rest) (hn : ¬ n < 0) (hk : ¬ k < 0) (hn1 : n.toNatClampNeg ≤ 100000) (hk1 : k.toNatClampNeg ≤ 100000)
    (hcells : cells + (1 + n.toNatClampNeg) ≤ R.cells) (hslots : slots + (n.toNatClampNeg + n.toNatClampNeg * k.toNatClampNeg) ≤ R.slots) :
    ∃ vm₁ : Vm, Stand p l e R s m args below meth c (mu_T (T.setVm vm₁) cA comp n.toNatClampNeg k.toNatClampNeg n.toNatClampNeg) (locs ++ mu_l T.heap.size n.toNatClampNeg) (cells + 1 + n.toNatClampNeg) (slots + n.toNatClampNeg + n.toNatClampNeg * k.toNatClampNeg) ∧
      ∀ target, Steps p.tables e below ((mu_T (T.setVm vm₁) cA comp n.toNatClampNeg k.toNatClampNeg n.toNatClampNeg).setTop { g with pc := g.pc + 4, stack := .ref T.heap.size :: rest }) target → Steps p.tables e below (T.setTop g) target := by
  subst hg
  have hpl : e.platform.magicAccessors = ({} : Platform).magicAccessors := by rw [X.admits.platform]
  obtain ⟨c0, b1, b2⟩ := Cond.classLink_spec hown hclink e.platform hpl
  cases a1.symm.trans b1
  obtain ⟨g1, w1, r1⟩ := State.classEntry (e := e) X.warmed b2
  generalize T.vm.noted g.method.cls index (.cls cA) = vm₁ at g1 w1 r1
  have al : s.vm.Alike vm₁ := w1.alike
  obtain ⟨kA', a2', eA⟩ := al.2.2 _ _ a2
  obtain ⟨kC', a5', eC⟩ := al.2.2 _ _ a5
  have a3' : kA'.kind = .array comp (.array .int) := by rw [eA]; exact a3
  have a6' : kC'.kind = .array cc .int := by rw [eC]; exact a6
  have X1 := X.noted w1
  obtain ⟨r2, r3⟩ := X.roomAbove hcells hslots
  have X2 := mu_stand X1 cA comp n.toNatClampNeg k.toNatClampNeg n.toNatClampNeg
  refine ⟨vm₁, X2, fun target hrest => ?_⟩
  have lim : ∀ z : Nat, z ≤ 100000 → ¬ z > e.platform.arrayLengthLimit := fun z hz => by rw [Launch.admits_arrayLengthLimit X.admits]; omega
  have hh1 : ¬ n.toNatClampNeg * componentBytes (.array .int) > e.platform.maxHeapBytes := by
    rw [Launch.admits_maxHeapBytes X.admits]; show ¬ n.toNatClampNeg * 4 > 536870912; omega
  have hh2 : ¬ k.toNatClampNeg * componentBytes .int > e.platform.maxHeapBytes := by
    rw [Launch.admits_maxHeapBytes X.admits]; show ¬ k.toNatClampNeg * 4 > 536870912; omega
  jvm_step X.here [hexec, hdg]
  simp only [multianewarray.sem, wp_bind', W.resolveClassAt_links (State.method?_setTop g X.here.top) g1]
  rw [W.popN, if_neg (by decide)]
  refine ⟨g, State.topJava?_setTop' (s := T.setVm vm₁) g X.here.top, [.int n, .int k], rest, rfl, hstack, ?_⟩
  simp only [List.mapM_cons, List.mapM_nil, wp_bind', wp_pure']
  refine mu_make (k := kA') (kc := kC') (comp := comp) (cc := cc) a2' a3' a5' a6' hn hk (lim _ hn1) hh1 (lim _ hk1) hh2 (by show T.heap.size + 1 + _ ≤ _; omega) (by show T.slotsUsed + _ + _ ≤ _; omega) (fun d' acts' => ?_)
  have eS : ((T.setTop g).setVm vm₁).setTop { g with stack := rest } = (T.setVm vm₁).setTop { g with stack := rest } := by
    show ((T.setVm vm₁).setTop g).setTop _ = _
    rw [State.setTop_setTop]
  rw [eS, mu_top]
  simp only [wp_bind', W.mark, W.pushRef, State.topJava?_setTop' _ X2.here.top, Option.some.injEq, exists_eq_left', State.setTop_setTop, State.heap_setTop]
  intro acts
  simp [jvm, X2.here.top]
  exact hrest
theorem mu_W {cc0 : ByteArray} (hexec : p.tables.exec = Jvm.exec) (hb : c.code = cc0) {own : String} {index : Nat} (hown : s.vm.findClass own = some m.cls) (hclink : (Cond.classLink own index "[[I").before args s = true) (hAO : pr_AO s)
    {pc : Nat} {ls : Array Slot} {n k : Int32} {N K h : Nat} {rest : List Value} (hn : ¬ n < 0) (hk : ¬ k < 0) (hN : n.toNatClampNeg = N) (hK : k.toNatClampNeg = K) (hn1 : N ≤ 100000) (hk1 : K ≤ 100000) (hcells : cells + (1 + N) ≤ R.cells) (hslots : slots + (N + N * K) ≤ R.slots) (hh : H.size = h) (hd : decode cc0 pc = .ok (.multianewarray index 2, 4))
    (kk : ∀ (cA cC : ClassId) (H1 : Heap), s.vm.findClass "[[I" = some cA → s.vm.findClass "[I" = some cC → H1.size = h + 1 + N → (∀ q, q < h → H1[q]? = H[q]?) → H1[h]? = some (mu_o cA N h N) → (∀ j, j < N → H1[h + 1 + j]? = some (mu_i cC K)) →
      W p l e R s m args below meth c H1 (locs ++ mu_l h N) (cells + 1 + N) (slots + N + N * K) Q (F0 m (pc + 4) ls (.ref h :: rest))) : W p l e R s m args below meth c H locs cells slots Q (F0 m pc ls (.int k :: .int n :: rest)) := by
  intro T hT X
  subst hT; subst hb; subst hN; subst hK; subst hh
  obtain ⟨⟨kA, comp, cA, kC, cc, a1, a2, a3, a4, a5, a6⟩, -⟩ := hAO
  obtain ⟨vm₁, X', st⟩ := mu_step X hexec hown hclink a1 a2 a3 a5 a6 (g := F0 m pc ls (.int k :: .int n :: rest)) rfl hd rfl hn hk hn1 hk1 hcells hslots
  obtain ⟨f1, f2, -, -, f5, f6⟩ := mu_f (T.setVm vm₁) cA comp n.toNatClampNeg k.toNatClampNeg n.toNatClampNeg
  obtain ⟨t, b1, b2⟩ := kk cA comp _ a1 a4 f1 f5 f2 f6 _ rfl X'
  exact ⟨t, st t b1, b2⟩
end MUS
