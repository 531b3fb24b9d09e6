/-! THE ABSTRACT MACHINE'S WORDS: a heap as a table of kinds and references (pr_T), of ints (pr_I) and of longs (pr_L), by the cells' own addresses -/
abbrev pr_T : Type := Nat × (Nat → Nat × Nat) × (Nat → Nat → Option Nat)
abbrev pr_I : Type := Nat → Nat → Int32
abbrev pr_L : Type := Nat → Nat → Int64
/-- the first address of the law's own cells; the classes; the array classes by kind; the static arrays; the strings and their rows of bytes -/
abbrev pr_C : Type := Nat × va_G × (Nat → ClassId) × (Nat → Nat) × (Nat → Nat) × (Nat → Nat)
def pr_z (g : pr_C) : Nat := g.1
def pr_D (g : pr_C) : va_G := g.2.1
def pr_ca (g : pr_C) : Nat → ClassId := g.2.2.1
def pr_sa (g : pr_C) : Nat → Nat := g.2.2.2.1
def pr_ak (g : pr_C) : Nat → Nat := g.2.2.2.2.1
def pr_av (g : pr_C) : Nat → Nat := g.2.2.2.2.2
def pr_up (I : pr_I) (a k : Nat) (v : Int32) : pr_I := fun b j => if b = a ∧ j = k then v else I b j
def pr_upl (L : pr_L) (a k : Nat) (v : Int64) : pr_L := fun b j => if b = a ∧ j = k then v else L b j
def pr_upr (T : pr_T) (a k : Nat) (v : Option Nat) : pr_T := (T.1, T.2.1, fun b j => if b = a ∧ j = k then v else T.2.2 b j)
/-- the fields of a class: 0 an int, 2 a reference -/
def pr_ft (ci k : Nat) : Nat := match ci with
  | 0 => if k < 4 then 2 else 0
  | 1 => if k = 2 then 2 else 0
  | 2 => if k < 7 then 2 else 0
  | 3 => if k = 1 then 0 else 2
  | 4 => if k < 17 then 2 else 0
  | 5 => if k < 8 then 2 else 0
  | 6 => if k < 6 then 2 else 0
  | 7 => 2
  | _ => if k = 0 then 2 else 0
def pr_N (ci : Nat) : Nat := match ci with
  | 0 => 5 | 1 => 6 | 2 => 9 | 3 => 3 | 4 => 18 | 5 => 9 | 6 => 8 | 7 => 5 | _ => 4
def pr_obj (T : pr_T) (I : pr_I) (a ci : Nat) : List Value := (List.range (pr_N ci)).map fun k => if pr_ft ci k = 0 then Value.int (I a k) else va_rf (T.2.2 a k)
/-- what lies at an address; kinds below 9: objects; 20 int[], 21 long[], 22 byte[], 23 boolean[], 24 int[][], 25 rows of worlds -/
def pr_ent (g : pr_C) (T : pr_T) (I : pr_I) (L : pr_L) (a : Nat) : Option va_E :=
  if (T.2.1 a).1 < 10 then some (.inr ((T.2.1 a).1, pr_obj T I a (T.2.1 a).1))
  else if (T.2.1 a).1 = 20 ∨ (T.2.1 a).1 = 22 ∨ (T.2.1 a).1 = 23 then some (.inl (pr_ca g (T.2.1 a).1, (T.2.1 a).2, .inl (I a)))
  else if (T.2.1 a).1 = 21 then some (.inl (pr_ca g 21, (T.2.1 a).2, .inr (.inl (L a))))
  else if (T.2.1 a).1 = 24 ∨ (T.2.1 a).1 = 25 then some (.inl (pr_ca g (T.2.1 a).1, (T.2.1 a).2, .inr (.inr (.inr (.inr (T.2.2 a))))))
  else none
def pr_tys (g : pr_C) : List (ClassId × FieldType) := [(pr_ca g 20, .int), (pr_ca g 21, .long), (pr_ca g 22, .byte), (pr_ca g 23, .byte), (pr_ca g 24, .array .int), (pr_ca g 25, .object RX6)]
def pr_Rep (g : pr_C) (T : pr_T) (I : pr_I) (L : pr_L) (H : Heap) : Prop := H.size = T.1 ∧ pr_z g ≤ T.1 ∧ ∀ a e, pr_ent g T I L a = some e → pr_z g ≤ a ∧ va_at (pr_D g) vwCl (a, e) H
def pr_A (g : pr_C) : Nat → Prop := fun q => pr_z g ≤ q
/-- the static arrays: USUAL_SETTING, LEAST_SETTING, GREATEST_SETTING -/
def pr_sv (i j : Nat) : Int32 := (([[20, 5, 3, 50, 80], [1, 1, 1, 0, 0], [500, 100, 9, 100, 100]] : List (List Int32)).getD i []).getD j 0
def pr_sn (i : Nat) : String := (["USUAL_SETTING", "LEAST_SETTING", "GREATEST_SETTING"] : List String).getD i ""
def pr_slen : List Nat := [4, 4, 4, 5, 5, 6, 6]
def pr_sbyt : List (List Int32) := [[110, 111, 100, 101], [108, 105, 110, 107], [104, 111, 108, 100], [114, 101, 116, 114, 121], [116, 114, 105, 101, 115], [101, 120, 112, 105, 114, 101], [99, 97, 110, 99, 101, 108]]
/-- the string constants: class, entry, text, number -/
def pr_strs : List (String × Nat × String × Nat) := [(RX1, 57, "node", 0), (RX1, 67, "link", 1), (RX1, 90, "hold", 2), (RX1, 92, "retry", 3), (RX1, 94, "tries", 4), (RX1, 96, "expire", 5), (RX1, 98, "cancel", 6),
  (RL, 35, "hold ", 10), (RL, 49, ";retry ", 11), (RL, 51, ";tries ", 12), (RL, 53, ";expire ", 13), (RL, 62, ";node ", 14), (RL, 67, ";link ", 15),
  (RX7, 273, "there is no such number", 7), (RX7, 280, "the value is out of range", 8), (RX7, 283, "both nodes are the same", 9)]
def pr_llen : List Nat := [5, 7, 7, 8, 6, 6]
def pr_lbyt : List (List Int32) := [[104, 111, 108, 100, 32], [59, 114, 101, 116, 114, 121, 32], [59, 116, 114, 105, 101, 115, 32], [59, 101, 120, 112, 105, 114, 101, 32], [59, 110, 111, 100, 101, 32], [59, 108, 105, 110, 107, 32]]
/-- the digits' tables of Integer: ones, tens -/
def pr_dg (i j : Nat) : Int32 := if i = 0 then Int32.ofNat (48 + j % 10) else Int32.ofNat (48 + j / 10)
def pr_dn (i : Nat) : String := if i = 0 then "DigitOnes" else "DigitTens"
def pr_prv : List MethodName := [yJ5_ensureCapacityInternal_d00df, yJ5_newCapacity_0f7a4, yJ5_putStringAt_47b60, yJ5_inflateIfNeededFor_a7421]
def pr_scn (g : pr_C) : Nat := pr_ak g 1000
def pr_scr (g : pr_C) (k : Nat) : Int32 := Int32.ofNat (pr_av g (k + 1000))
/-- the law's strings, the digits, the private methods of the JDK's builder, and the script -/
def pr_LS (g : pr_C) (A : Nat → Prop) (U : State) (H : Heap) : Prop := vk_S 6 pr_llen pr_lbyt (fun k => pr_ak g (k + 10)) (fun k => pr_av g (k + 10)) A U H ∧
  (∀ i, i < 2 → va_Z RJ6 (pr_dn i) "[B" (.ref (pr_sa g (i + 3))) A U H ∧ va_T .byte (pr_sa g (i + 3)) 100 (fun j => .int (pr_dg i j)) A U H) ∧
  (∀ y ∈ pr_prv, (Cond.privateMethod y).before #[] U = true) ∧ va_X (pr_sa g 5) (pr_scn g) (pr_scr g) U H ∧ ¬ A (pr_sa g 5)
/-- the words of the nest -/
def pr_nest : List Cond := [.methodLinkNest RX6 11 yX2_init RX7, .methodLinkNest RX6 20 yX5_init RX7, .methodLinkNest RX6 27 yX4_init RX7, .methodLinkNest RX6 34 yX3_init RX7, .fieldLinkNest RX6 54 RX7 "USUAL_SETTING" "[I" RX7,
  .methodLinkNest RX7 25 yX0_init RX7, .methodLinkNest RX7 32 yX1_init RX7, .fieldLinkNest RX1 76 RX7 "LEAST_SETTING" "[I" RX7, .fieldLinkNest RX1 79 RX7 "GREATEST_SETTING" "[I" RX7,
  .castable "[B" "java/lang/Cloneable", .castable "java/lang/IndexOutOfBoundsException" "java/lang/IndexOutOfBoundsException", .castable "java/lang/IllegalArgumentException" "java/lang/IllegalArgumentException",
  .declares ⟨"java/lang/RuntimeException", "<init>", "(Ljava/lang/String;)V"⟩, .declares ⟨"java/lang/Exception", "<init>", "(Ljava/lang/String;)V"⟩, .declares ⟨"java/lang/Throwable", "<init>", "(Ljava/lang/String;)V"⟩]
def pr_nestW : Cond → Bool
  | .methodLinkNest .. => true
  | .fieldLinkNest .. => true
  | .castable .. => true
  | .declares .. => true
  | _ => false
/-- what the tables say of the class of int[][], and of World[] -/
def pr_AO (U : State) : Prop := (∃ (kA : Class) (comp cA : ClassId) (kC : Class) (cc : ClassId), U.vm.findClass "[[I" = some cA ∧ U.vm.classes[cA]? = some kA ∧ kA.kind = .array comp (.array .int) ∧ U.vm.findClass "[I" = some comp ∧ U.vm.classes[comp]? = some kC ∧ kC.kind = .array cc .int) ∧ va_AO RX6 U
theorem pr_AO.moved {u U : State} (hvm : u.vm.Alike U.vm) (h : pr_AO u) : pr_AO U := by
  obtain ⟨⟨kA, comp, cA, kC, cc, h1, h2, h3, h4, h5, h6⟩, h7⟩ := h
  obtain ⟨kA', hA', eA⟩ := hvm.2.2 _ _ h2
  obtain ⟨kC', hC', eC⟩ := hvm.2.2 _ _ h5
  exact ⟨⟨kA', comp, cA, kC', cc, by rw [hvm.findClass]; exact h1, hA', by rw [eA]; exact h3, by rw [hvm.findClass]; exact h4, hC', by rw [eC]; exact h6⟩, va_AO.moved hvm h7⟩
/-- what the start gives of the statics and the strings, which nobody writes -/
def pr_SF (g : pr_C) (U : State) (H : Heap) : Prop :=
  (∀ i, i < 3 → va_Z RX7 (pr_sn i) "[I" (.ref (pr_sa g i)) (pr_A g) U H ∧ va_T .int (pr_sa g i) 5 (fun j => .int (pr_sv i j)) (pr_A g) U H) ∧
  vk_S 7 pr_slen pr_sbyt (pr_ak g) (pr_av g) (pr_A g) U H ∧ (∀ q ∈ pr_strs, vk_R q.1 q.2.1 q.2.2.1 (pr_ak g q.2.2.2) U) ∧
  vx_Zq Bundle.tN "UNASSIGNED_STACK" Bundle.steD (pr_A g) U H ∧ vx_Zq Bundle.tN "SUPPRESSED_SENTINEL" Bundle.listD (pr_A g) U H ∧
  va_Z "java/lang/String" "COMPACT_STRINGS" "Z" (.int 1) (pr_A g) U H ∧ va_Zq "jdk/internal/util/Preconditions" "SIOOBE_FORMATTER" "Ljava/util/function/BiFunction;" (pr_A g) U H ∧ True ∧
  (∀ w ∈ pr_nest, va_Nw w U) ∧ pr_AO U ∧ pr_LS g (pr_A g) U H
theorem pr_nest_ok : ∀ w ∈ pr_nest, pr_nestW w = true := by decide +kernel
theorem pr_nest_warm {w : Cond} (hw : pr_nestW w = true) {s U : State} (hW : s.WarmedH U.vm) (h : va_Nw w s) : va_Nw w U := by
  cases w <;> first | exact va_Nw.warmM hW h | exact va_Nw.warmF hW h | exact va_Nw.warmC hW h | exact va_Nw.warmD hW h | (exact absurd hw (by simp [pr_nestW]))
theorem pr_SF.to {g : pr_C} {s U : State} {H H1 : Heap} (h : pr_SF g s H) (hW : s.WarmedH U.vm) (hq : ∀ a : Nat, a < H.size → ¬ pr_A g a → H1[a]? = H[a]?) : pr_SF g U H1 := by
  obtain ⟨h1, h2, h3, h4, h5, h6, h7, h7b, h8, h9, h10, h11, h12, h13, h14⟩ := h
  refine ⟨fun i hi => ⟨(va_Z.moved hW.alike (h1 i hi).1).kept hq, (va_T.moved hW.alike (h1 i hi).2).kept hq⟩, (vk_S.moved hW.alike h2).kept hq, fun q hq => vk_R.warm hW (h3 q hq), (vx_Zq.moved hW.alike h4).kept hq, (vx_Zq.moved hW.alike h5).kept hq, (va_Z.moved hW.alike h6).kept hq, (va_Zq.moved hW.alike h7).kept hq, h7b, fun w hw => pr_nest_warm (pr_nest_ok w hw) hW (h8 w hw), pr_AO.moved hW.alike h9, (vk_S.moved hW.alike h10).kept hq, fun i hi => ⟨(va_Z.moved hW.alike (h11 i hi).1).kept hq, (va_T.moved hW.alike (h11 i hi).2).kept hq⟩, fun y hy => Cond.privateMethod_warm hW (h12 y hy), (va_X.moved hW.alike h13).kept (hq _ (by obtain ⟨z, hz, -⟩ := h13; exact (Array.getElem?_eq_some_iff.mp hz).1) h14), h14⟩
/-- the world as a method finds it, and leaves it -/
def pr_BB (g : pr_C) (T : pr_T) (I : pr_I) (L : pr_L) (U : State) : Prop := pr_Rep g T I L U.heap ∧ va_K (pr_D g) vwCl (pr_tys g) U ∧ pr_SF g U U.heap
theorem pr_BB.blind {g : pr_C} {T : pr_T} {I : pr_I} {L : pr_L} {U : State} {k : JFrame} {a : Array Value} {mk : MethodId} (h : pr_BB g T I L U) : pr_BB g T I L (U.calling k mk a) :=
  ⟨h.1, va_K.moved (u := U) (U := U.calling k mk a) (Vm.Alike.refl U.vm) h.2.1, h.2.2.to (State.WarmedH.refl U) (fun _ _ _ => rfl)⟩
abbrev pr_X : Type := Program × Launch × Env × Room × State × MethodId × Array Value × List Frame × Method × Code
/-- a method: name, bytes, locals, what it returns, its table -/
abbrev pr_MD : Type := MethodName × ByteArray × Nat × Option FieldType × List (Nat × Nat × Nat × Nat)
/-- what holds all through a method's body -/
def pr_Am (g : pr_C) (X : pr_X) (M : pr_MD) (d mc ms : Nat) : Prop := match X with
  | (p, l, e, R, s, m, args, below, meth, c) => p.tables.exec = Jvm.exec ∧ c.code = M.2.1 ∧ c.maxLocals = M.2.2.1 ∧ s.vm.findClass M.1.cls = some m.cls ∧ (∀ w ∈ pr_gw, w.before args s = true) ∧ va_K (pr_D g) vwCl (pr_tys g) s ∧ pr_SF g s s.heap ∧ meth.locks = false ∧ l.stackTraces = false ∧ pr_z g ≤ s.heap.size ∧ meth.sig.returnType = M.2.2.2.1 ∧
    d ≤ R.frames ∧ 37 * d ≤ R.locals ∧ mc ≤ R.cells ∧ ms ≤ R.slots
/-- the locals as a list; null where nothing is known -/
def pr_lo (lsS : Array Slot) (nL : Nat) (ls : List Value) : Prop := lsS.size = nL ∧ lv_wf lsS ∧ ∀ (i : Nat) (v : Value), ls[i]? = some v → v ≠ .null → lsS[i]? = some (.val v)
def pr_c2 (v : Value) : Bool := v.category == 2
def pr_st1 : List Value → Nat → Value → List Value
  | [], _, _ => []
  | _ :: t, 0, v => v :: t
  | u :: t, 1, v => (if pr_c2 u then .null else u) :: pr_st1 t 0 v
  | u :: t, i + 2, v => u :: pr_st1 t (i + 1) v
def pr_st2 : List Value → Nat → Value → List Value
  | [], _, _ => []
  | _ :: [], 0, v => [v]
  | _ :: _ :: t, 0, v => v :: .null :: t
  | u :: t, 1, v => (if pr_c2 u then .null else u) :: pr_st2 t 0 v
  | u :: t, i + 2, v => u :: pr_st2 t (i + 1) v
/-- the walk's goal: from this place of the body, over this world, a state with Q comes -/
def pr_G (g : pr_C) (X : pr_X) (nL : Nat) (Q : State → Prop) (cs sl pc : Nat) (ls st : List Value) (T : pr_T) (I : pr_I) (L : pr_L) : Prop := match X with
  | (p, l, e, R, s, m, args, below, meth, c) => ∀ (H : Heap) (locs : List Loc) (lsS : Array Slot), pr_Rep g T I L H → pr_lo lsS nL ls → va_S (pr_A g) s.heap H locs → W p l e R s m args below meth c H locs cs sl Q (F0 m pc lsS st)
