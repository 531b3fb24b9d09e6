/-! int[n][m] IN ONE INSTRUCTION: the outer array, then row by row, each laid into it as it comes -/
/-- what the outer array holds behind i rows -/
def mu_r (h i : Nat) : Nat → Value := fun j => if j < i then .ref (h + 1 + j) else .null
def mu_o (cA : ClassId) (n h i : Nat) : Cell := arrV cA n (mu_r h i)
def mu_i (cC : ClassId) (m : Nat) : Cell := arrV cC m (fun _ => .int 0)
theorem mu_o_up {cA : ClassId} {n h i : Nat} : (mu_o cA n h i).setSlot i (.ref (h + 1 + i)) = mu_o cA n h (i + 1) := by
  unfold mu_o
  rw [arrV_store]
  congr 1
  funext j
  unfold updV mu_r
  by_cases e : j = i
  · rw [if_pos e, if_pos (by omega), e]
  · rw [if_neg e]
    by_cases c : j < i
    · rw [if_pos c, if_pos (by omega)]
    · rw [if_neg c, if_neg (by omega)]
/-- the state behind i rows -/
def mu_T (T : State) (cA cC : ClassId) (n m : Nat) : Nat → State
  | 0 => T.pushCell (mu_o cA n T.heap.size 0)
  | i + 1 => ((mu_T T cA cC n m i).pushCell (mu_i cC m)).setCell T.heap.size (mu_o cA n T.heap.size (i + 1))
theorem mu_f (T : State) (cA cC : ClassId) (n m : Nat) : ∀ i, (mu_T T cA cC n m i).heap.size = T.heap.size + 1 + i ∧ (mu_T T cA cC n m i).heap[T.heap.size]? = some (mu_o cA n T.heap.size i) ∧ (mu_T T cA cC n m i).vm = T.vm ∧ (mu_T T cA cC n m i).slotsUsed = T.slotsUsed + n + i * m ∧ (∀ a : Addr, a < T.heap.size → (mu_T T cA cC n m i).heap[a]? = T.heap[a]?) ∧ ∀ j, j < i → (mu_T T cA cC n m i).heap[T.heap.size + 1 + j]? = some (mu_i cC m)
  | 0 => ⟨by simp [mu_T], by simp [mu_T], rfl, by simp [mu_T, mu_o, arrV], fun a ha => State.heap_pushCell_of_lt _ _ ha, fun j hj => absurd hj (by omega)⟩
  | i + 1 => by
    obtain ⟨h1, h2, h3, h4, h5, h6⟩ := mu_f T cA cC n m i
    have hlt : T.heap.size < (mu_T T cA cC n m i).heap.size := by omega
    have hb : ((mu_T T cA cC n m i).pushCell (mu_i cC m)).heap[T.heap.size]? = some (mu_o cA n T.heap.size i) := by rw [State.heap_pushCell_of_lt (h := hlt)]; exact h2
    refine ⟨?_, State.heap_setCell_self hb, by simp [mu_T, h3], ?_, fun a ha => ?_, fun j hj => ?_⟩
    · simp [mu_T, State.setCell, h1]; omega
    · simp [mu_T, h4, mu_i, arrV, Nat.succ_mul]; omega
    · show (((mu_T T cA cC n m i).pushCell (mu_i cC m)).setCell T.heap.size _).heap[a]? = _
      rw [State.heap_setCell_other (Nat.ne_of_gt ha), State.heap_pushCell_of_lt (h := Nat.lt_trans ha hlt)]
      exact h5 a ha
    · show (((mu_T T cA cC n m i).pushCell (mu_i cC m)).setCell T.heap.size _).heap[T.heap.size + 1 + j]? = _
      rw [State.heap_setCell_other (show T.heap.size ≠ T.heap.size + 1 + j by omega)]
      by_cases e : j = i
      · rw [e, ← h1]; exact State.heap_pushCell_size _ _
      · rw [State.heap_pushCell_of_lt (h := show T.heap.size + 1 + j < (mu_T T cA cC n m i).heap.size by omega)]
        exact h6 j (by omega)
section MUW
variable {E : CtlPost} {e : Env} {d : Bool} {acts : List Action} {s : State}
/-- one row -/
theorem mu_row {comp cc : ClassId} {kc : Class} {m : Int32} (hkc : s.vm.classes[comp]? = some kc) (hkindc : kc.kind = .array cc .int) (hm : ¬ m < 0) (hl : ¬ m.toNatClampNeg > e.platform.arrayLengthLimit) (hh : ¬ m.toNatClampNeg * componentBytes .int > e.platform.maxHeapBytes) (h1 : s.heap.size < e.platform.maxCells) (h2 : s.slotsUsed + m.toNatClampNeg ≤ e.platform.maxSlots) {Q : Addr → Pre} (hq : ∀ acts', Q s.heap.size d acts' (s.pushCell (mu_i comp m.toNatClampNeg))) : wp (multianewarray.make comp [m]) Q E e d acts s := by
  rw [multianewarray.make]
  simp only [wp_bind', W.ite, hm, if_false, wp_pure', W.theClass, hkc, hkindc, Option.some.injEq, exists_eq_left']
  refine W.newArray_of hkc hkindc hl hh h1 h2 rfl (fun acts' => ?_)
  have := hq acts'
  unfold mu_i at this
  rw [← arrV_new] at this
  exact this
/-- all of it -/
theorem mu_make {c comp cc : ClassId} {k kc : Class} {n m : Int32} (hk : s.vm.classes[c]? = some k) (hkind : k.kind = .array comp (.array .int)) (hkc : s.vm.classes[comp]? = some kc) (hkindc : kc.kind = .array cc .int) (hn : ¬ n < 0) (hm : ¬ m < 0) (hl1 : ¬ n.toNatClampNeg > e.platform.arrayLengthLimit) (hh1 : ¬ n.toNatClampNeg * componentBytes (.array .int) > e.platform.maxHeapBytes) (hl2 : ¬ m.toNatClampNeg > e.platform.arrayLengthLimit) (hh2 : ¬ m.toNatClampNeg * componentBytes .int > e.platform.maxHeapBytes) (hc : s.heap.size + 1 + n.toNatClampNeg ≤ e.platform.maxCells) (hs : s.slotsUsed + n.toNatClampNeg + n.toNatClampNeg * m.toNatClampNeg ≤ e.platform.maxSlots) {Q : Addr → Pre} (hq : ∀ d' acts', Q s.heap.size d' acts' (mu_T s c comp n.toNatClampNeg m.toNatClampNeg n.toNatClampNeg)) : wp (multianewarray.make c [n, m]) Q E e d acts s := by
  have none0 : ([m].find? (· < 0)) = none := by simp [hm]
  rw [multianewarray.make]
  simp only [wp_bind', W.ite, hn, if_false, wp_pure', W.theClass, hk, hkind, Option.some.injEq, exists_eq_left']
  refine W.newArray_of hk hkind hl1 hh1 (by omega) (by have := Nat.zero_le (n.toNatClampNeg * m.toNatClampNeg); omega) rfl (fun acts0 => ?_)
  have e0 : s.pushCell ({ cls := c, slots := Array.replicate n.toNatClampNeg .null } : Cell) = mu_T s c comp n.toNatClampNeg m.toNatClampNeg 0 := by
    show _ = s.pushCell (mu_o c n.toNatClampNeg s.heap.size 0)
    congr 1
    have e1 : mu_o c n.toNatClampNeg s.heap.size 0 = arrV c n.toNatClampNeg (fun _ => .null) := by
      unfold mu_o
      congr 1
    rw [e1, ← arrV_new]
  rw [e0]
  simp only [none0]
  rw [ite_self, wp_bind', Std.Legacy.Range.forIn_eq_forIn_range']
  have hsz : ([:n.toNatClampNeg] : Std.Legacy.Range).size = n.toNatClampNeg := by simp [Std.Legacy.Range.size]
  rw [hsz]
  show wp (forIn (List.range' 0 n.toNatClampNeg 1) PUnit.unit _) _ E e d acts0 _
  refine wp_forIn_inv (fun rest s' => ∃ i, i ≤ n.toNatClampNeg ∧ rest = List.range' i (n.toNatClampNeg - i) ∧ s' = mu_T s c comp n.toNatClampNeg m.toNatClampNeg i) _ _ ⟨0, Nat.zero_le _, rfl, rfl⟩ ?_ ?_
  · rintro x rest s' d' acts' Q' ⟨i, hi, hl, rfl⟩ hnext
    have hlt : i < n.toNatClampNeg := by
      by_cases h : i < n.toNatClampNeg
      · exact h
      · rw [show n.toNatClampNeg - i = 0 by omega] at hl; simp at hl
    rw [show n.toNatClampNeg - i = (n.toNatClampNeg - (i + 1)) + 1 by omega, List.range'_succ] at hl
    obtain ⟨rfl, hrest⟩ := List.cons.inj hl
    obtain ⟨f1, f2, f3, f4, _, _⟩ := mu_f s c comp n.toNatClampNeg m.toNatClampNeg x
    have hmul : x * m.toNatClampNeg + m.toNatClampNeg ≤ n.toNatClampNeg * m.toNatClampNeg := by
      have := Nat.mul_le_mul_right m.toNatClampNeg (show x + 1 ≤ n.toNatClampNeg from hlt)
      rw [Nat.succ_mul] at this; exact this
    simp only [wp_bind']
    refine mu_row (by rw [f3]; exact hkc) hkindc hm hl2 hh2 (by rw [f1]; omega) (by rw [f4]; omega) (fun acts2 => ?_)
    have hlt0 : s.heap.size < (mu_T s c comp n.toNatClampNeg m.toNatClampNeg x).heap.size := by rw [f1]; omega
    have hcell : ((mu_T s c comp n.toNatClampNeg m.toNatClampNeg x).pushCell (mu_i comp m.toNatClampNeg)).heap[s.heap.size]? = some (mu_o c n.toNatClampNeg s.heap.size x) := by rw [State.heap_pushCell_of_lt (h := hlt0)]; exact f2
    simp only [wp_bind', W.writeLoc, wp_pure']
    refine ⟨mu_o c n.toNatClampNeg s.heap.size x, hcell, by simp [mu_o, arrV], by simp [mu_o, arrV, hlt], ?_, hnext _ _ _ ⟨x + 1, hlt, hrest, ?_⟩⟩
    · simp [State.fitsSlot, State.slotType?, mu_o, arrV, f3, hk, hkind]
      rfl
    · rw [f1]
      show State.setCell _ _ _ = State.setCell _ _ _
      rw [mu_o_up]
  · rintro s' d' acts' ⟨i, hi, hl, rfl⟩
    have e1 : i = n.toNatClampNeg := by
      by_cases h : i < n.toNatClampNeg
      · rw [show n.toNatClampNeg - i = (n.toNatClampNeg - (i + 1)) + 1 by omega, List.range'_succ] at hl; cases hl
      · omega
    subst e1
    simp only [wp_pure']
    exact hq _ _
end MUW
