/-! NEW CELLS, COPIES -/
/-- a fresh cell at T.1, of this kind, with nothing in it -/
def pr_new (T : pr_T) (t n : Nat) : pr_T := (T.1 + 1, fun b => if b = T.1 then (t, n) else T.2.1 b, fun b j => if b = T.1 then none else T.2.2 b j)
def pr_row (I : pr_I) (a : Nat) (f : Nat → Int32) : pr_I := fun b => if b = a then f else I b
def pr_rowl (L : pr_L) (a : Nat) (f : Nat → Int64) : pr_L := fun b => if b = a then f else L b
theorem pr_row_ne {I : pr_I} {a b : Nat} {f : Nat → Int32} (h : b ≠ a) : pr_row I a f b = I b := if_neg h
theorem pr_row_eq {I : pr_I} {a : Nat} {f : Nat → Int32} : pr_row I a f a = f := if_pos rfl
theorem pr_rowl_ne {L : pr_L} {a b : Nat} {f : Nat → Int64} (h : b ≠ a) : pr_rowl L a f b = L b := if_neg h
theorem pr_rowl_eq {L : pr_L} {a : Nat} {f : Nat → Int64} : pr_rowl L a f a = f := if_pos rfl
theorem pr_Rep.push {g : pr_C} {T : pr_T} {I I' : pr_I} {L L' : pr_L} {H H' : Heap} {t n : Nat} (hR : pr_Rep g T I L H) (hsz : H'.size = T.1 + 1) (ho : ∀ q, q < T.1 → H'[q]? = H[q]?) (hI : ∀ b, b ≠ T.1 → I' b = I b) (hL : ∀ b, b ≠ T.1 → L' b = L b) (hat : ∀ e, pr_ent g (pr_new T t n) I' L' T.1 = some e → va_at (pr_D g) vwCl (T.1, e) H') : pr_Rep g (pr_new T t n) I' L' H' := by
  refine ⟨hsz, Nat.le_succ_of_le hR.2.1, fun b e hb => ?_⟩
  by_cases hab : b = T.1
  · subst hab; exact ⟨hR.2.1, hat e hb⟩
  · rw [pr_ent_congr (T := T) (I := I) (L := L) (by simp [pr_new, hab]) (hI b hab) (hL b hab) (by funext j; simp [pr_new, hab])] at hb
    obtain ⟨h2, h3⟩ := hR.2.2 b e hb
    exact ⟨h2, h3.kept (ho b (by have := h3.lt; rw [hR.1] at this; exact this))⟩
theorem pr_va_S_up {A : Nat → Prop} {H0 H H1 : Heap} {locs : List Loc} (h : va_S A H0 H locs) (hz : H1.size = H.size + 1) (ho : ∀ q, q < H.size → H1[q]? = H[q]?) : va_S A H0 H1 locs :=
  ⟨Nat.le_trans h.1 (by omega), fun x h1 h2 => (ho x (Nat.lt_of_lt_of_le h1 h.1)).trans (h.2.1 x h1 h2), h.2.2⟩
/-- the entry 'index' of own's pool names the class ci, which can be made -/
def pr_Nw (own : String) (index ci : Nat) : Prop := ∃ (C : String) (Tc : u_T) (N : Nat) (ty0 : Nat → FieldType), pr_Cl ci C Tc N ty0 ∧ Cond.classLink own index C ∈ pr_gw ∧ Cond.instantiable C N ∈ pr_gw ∧ Cond.initialized C ∈ pr_gw
theorem pr_dflt (ty : FieldType) (h : pr_isr ty = true) : defaultValue ty = .null := by cases ty <;> first | rfl | (simp [pr_isr] at h)
section PRN
variable {g : pr_C} {X : pr_X} {M : pr_MD} {d mc ms : Nat} {nL : Nat} {Q : State → Prop} {cs sl pc : Nat} {ls st : List Value} {T : pr_T} {I : pr_I} {L : pr_L}
theorem pr_newO (hA : pr_Am g X M d mc ms) {index ci : Nat} (hN : pr_Nw M.1.cls index ci) (hcs : cs + 1 ≤ mc) (hsl : sl + pr_N ci ≤ ms) (hd : decode M.2.1 pc = .ok (.new index, 3)) (kk : pr_G g X nL Q (cs + 1) (sl + pr_N ci) (pc + 3) ls (.ref T.1 :: st) (pr_new T ci 0) (pr_row I T.1 (fun _ => 0)) L) : pr_G g X nL Q cs sl pc ls st T I L := by
  obtain ⟨p, l, e, R, s, m, args, below, meth, c⟩ := X
  intro H locs lsS hR hl hS
  obtain ⟨C, Tc, N, ty0, ⟨h1, h2, h3, h4, h5, h6, h7⟩, hc1, hc2, hc3⟩ := hN
  obtain ⟨hx, hb, hml, hown, hts, hK, hSF, hlk, hnt, hzs, hret, hdf, hdl, hmc, hms⟩ := hA
  have hKn := hK.1 ci _ h1
  subst h3
  refine W.newcK hx hb hown (hts _ hc1) (hts _ hc2) (hts _ hc3) rfl hd (Nat.le_trans hcs hmc) (Nat.le_trans hsl hms) hKn.2.1 hR.1 fun H1 kC hkC e1 z1 o1 => ?_
  have hz : H1.size = H.size + 1 := by rw [z1, hR.1]
  refine kk H1 locs lsS (hR.push z1 o1 (fun b hb => pr_row_ne hb) (fun _ _ => rfl) fun e9 he9 => ?_) hl (pr_va_S_up hS hz (fun q hq => o1 q (by rw [← hR.1]; exact hq)))
  rw [pr_ent_o (n := 0) h2 (by simp [pr_new])] at he9
  cases he9
  refine ⟨_, h1, (u_born ty0 hts h4 hKn hkC e1 h5).to fun j hj => ?_⟩
  unfold vp_V
  rw [List.getD_eq_getElem?_getD, pr_obj_get hj]
  rcases (h7 j hj).2 with ⟨q1, q2, -⟩ | ⟨q1, q2, -⟩
  · rw [q1, q2]; simp [pr_row, defaultValue]
  · rw [pr_dflt _ q2]; simp [q1, pr_new, va_rf]
theorem pr_newA (hA : pr_Am g X M d mc ms) {at0 : ArrayType} {j : Int32} (n t t0 : Nat) (hty : (pr_tys g)[t0]? = some (pr_ca g t, newarray.typeOf at0)) (ht : t = 20 ∨ t = 22 ∨ t = 23) (hdv : defaultValue (newarray.typeOf at0) = .int 0) (hw : Cond.arrayClass (newarray.typeOf at0) ∈ pr_gw) (hn : ¬ j < 0) (hN : j.toNatClampNeg = n) (hsm : n ≤ 60000000) (hcs : cs + 1 ≤ mc) (hsl : sl + n ≤ ms) (hd : decode M.2.1 pc = .ok (.newarray at0, 2)) (kk : pr_G g X nL Q (cs + 1) (sl + n) (pc + 2) ls (.ref T.1 :: st) (pr_new T t n) (pr_row I T.1 (fun _ => 0)) L) : pr_G g X nL Q cs sl pc ls (.int j :: st) T I L := by
  obtain ⟨p, l, e, R, s, m, args, below, meth, c⟩ := X
  intro H locs lsS hR hl hS
  obtain ⟨hx, hb, hml, hown, hts, hK, hSF, hlk, hnt, hzs, hret, hdf, hdl, hmc, hms⟩ := hA
  have hcomp : componentBytes (newarray.typeOf at0) ≤ 8 := by cases at0 <;> decide
  have hda : (fun _ : Nat => defaultValue (newarray.typeOf at0)) = (fun _ => Value.int 0) := by rw [hdv]
  have hmem := hK.2 t0 _ hty
  refine va_newaK hx hb (hts _ hw) rfl hd rfl hn hN (by have := Nat.mul_le_mul hsm hcomp; omega) (Nat.le_trans hcs hmc) (Nat.le_trans hsl hms) hR.1 fun H1 cA e1 z1 o1 hAr hNm => ?_
  have hca : cA = pr_ca g t := by
    have h8 := hmem.2
    have : s.vm.findClass ("[" ++ (newarray.typeOf at0).toString) = some (pr_ca g t) := by
      cases at0 <;> exact h8
    exact Option.some.inj (hNm.symm.trans this)
  subst hca
  have hz : H1.size = H.size + 1 := by rw [z1, hR.1]
  refine kk H1 locs lsS (hR.push z1 o1 (fun b hb => pr_row_ne hb) (fun _ _ => rfl) fun e9 he9 => ?_) hl (pr_va_S_up hS hz (fun q hq => o1 q (by rw [← hR.1]; exact hq)))
  rw [pr_ent_i (n := n) ht (by simp [pr_new]), pr_row_eq] at he9
  cases he9
  show H1[T.1]? = some (vp_cell _ _)
  rw [vp_cell_i, e1, hda]
theorem pr_newL (hA : pr_Am g X M d mc ms) {j : Int32} (n : Nat) (hw : Cond.arrayClass .long ∈ pr_gw) (hn : ¬ j < 0) (hN : j.toNatClampNeg = n) (hsm : n ≤ 60000000) (hcs : cs + 1 ≤ mc) (hsl : sl + n ≤ ms) (hd : decode M.2.1 pc = .ok (.newarray .long, 2)) (kk : pr_G g X nL Q (cs + 1) (sl + n) (pc + 2) ls (.ref T.1 :: st) (pr_new T 21 n) I (pr_rowl L T.1 (fun _ => 0))) : pr_G g X nL Q cs sl pc ls (.int j :: st) T I L := by
  obtain ⟨p, l, e, R, s, m, args, below, meth, c⟩ := X
  intro H locs lsS hR hl hS
  obtain ⟨hx, hb, hml, hown, hts, hK, hSF, hlk, hnt, hzs, hret, hdf, hdl, hmc, hms⟩ := hA
  have hmem := hK.2 1 _ rfl
  refine va_newaK (atype := .long) hx hb (hts _ hw) rfl hd rfl hn hN (by show n * 8 ≤ _; omega) (Nat.le_trans hcs hmc) (Nat.le_trans hsl hms) hR.1 fun H1 cA e1 z1 o1 hAr hNm => ?_
  have hca : cA = pr_ca g 21 := Option.some.inj (hNm.symm.trans hmem.2)
  subst hca
  have hz : H1.size = H.size + 1 := by rw [z1, hR.1]
  refine kk H1 locs lsS (hR.push z1 o1 (fun _ _ => rfl) (fun b hb => pr_rowl_ne hb) fun e9 he9 => ?_) hl (pr_va_S_up hS hz (fun q hq => o1 q (by rw [← hR.1]; exact hq)))
  rw [pr_ent_l (n := n) (by simp [pr_new]), pr_rowl_eq] at he9
  cases he9
  show H1[T.1]? = some (vp_cell _ _)
  rw [vp_cell_l, e1]
  rfl
theorem pr_toInt {z : Int32} (hz : ¬ z < 0) : z.toInt = (z.toNatClampNeg : Int) := by
  have hz0 : (0 : Int) ≤ z.toInt := by
    have := Int32.not_lt.mp hz
    simpa using Int32.le_iff_toInt_le.mp this
  show z.toInt = ((z.toInt.toNat : Nat) : Int)
  omega
/-- what System.arraycopy needs of the pool -/
def pr_cpw (own : String) (index : Nat) : Prop := Cond.methodLink own index arraycopyName ∈ pr_gw ∧ Cond.native arraycopyName ∈ pr_gw ∧ Cond.static arraycopyName ∈ pr_gw ∧ Cond.initialized "java/lang/System" ∈ pr_gw
theorem pr_cells {H H' : Heap} {a : Nat} {x : Cell} (hH : H' = H.setIfInBounds a x) (hl : a < H.size) : H'[a]? = some x ∧ H'.size = H.size ∧ ∀ q, q ≠ a → H'[q]? = H[q]? := by
  subst hH
  exact ⟨by simp [Array.getElem?_setIfInBounds, hl], by simp, fun q hq => by simp [Array.getElem?_setIfInBounds, Ne.symm hq]⟩
theorem pr_S_set {A : Nat → Prop} {H0 H H1 : Heap} {locs ex : List Loc} {a : Nat} (h : va_S A H0 H locs) (z : H1.size = H.size) (oq : ∀ q : Nat, q ≠ a → H1[q]? = H[q]?) (ha : A a) (hex : ∀ q ∈ ex, q.base = a) : va_S A H0 H1 (locs ++ ex) := by
  refine ⟨by rw [z]; exact h.1, fun q h1 h2 => ?_, fun q hq => ?_⟩
  · rw [oq q (fun e => h2 (by rw [e]; exact ha))]
    exact h.2.1 q h1 h2
  · rcases List.mem_append.mp hq with h3 | h3
    · exact h.2.2 q h3
    · rw [hex q h3]; exact ha
theorem pr_copyI (hA : pr_Am g X M d mc ms) (hnL : nL = M.2.2.1) {index a a0 n0 n1 : Nat} {sp dp n : Int32} (hw : pr_cpw M.1.cls index) (hd1 : 1 ≤ d) (ha0 : T.2.1 a0 = (20, n0)) (ha : T.2.1 a = (20, n1)) (h1 : ¬ sp < 0) (h2 : ¬ dp < 0) (h3 : ¬ n < 0) (h4 : sp.toNatClampNeg + n.toNatClampNeg ≤ n0) (h5 : dp.toNatClampNeg + n.toNatClampNeg ≤ n1) (hst : (st.map fun v => v.category).sum + (nativeFrameWords "java/lang/System" "arraycopy" 5 + 11) ≤ 37) (hd : decode M.2.1 pc = .ok (.invokestatic index, 3))
    (kk : pr_G g X nL Q cs sl (pc + 3) ls st T (pr_row I a (va_cpy (I a0) (I a) sp.toNatClampNeg dp.toNatClampNeg n.toNatClampNeg)) L) : pr_G g X nL Q cs sl pc ls (.int n :: .int dp :: .ref a :: .int sp :: .ref a0 :: st) T I L := by
  subst hnL
  obtain ⟨p, l, e, R, s, m, args, below, meth, c⟩ := X
  intro H locs lsS hR hl hS
  obtain ⟨hx, hb, hml, hown, hts, hK, hSF, hlk, hnt, hzs, hret, hdf, hdl, hmc, hms⟩ := hA
  have hc0 : H[a0]? = some (vp_cell (pr_ca g 20) (n0, .inl (I a0))) := (hR.2.2 a0 _ (pr_ent_i (g := g) (I := I) (L := L) (Or.inl rfl) ha0)).2
  obtain ⟨hza, hc1'⟩ := hR.2.2 a _ (pr_ent_i (g := g) (I := I) (L := L) (Or.inl rfl) ha)
  have hc1 : H[a]? = some (vp_cell (pr_ca g 20) (n1, .inl (I a))) := hc1'
  intro S0 hT Xs
  obtain ⟨-, k0, hk0, cm0, hkk0⟩ := (hK.2 0 _ rfl).1 n0 (fun j => .int (I a0 j))
  obtain ⟨-, k1, hk1, cm1, hkk1⟩ := (hK.2 0 _ rfl).1 n1 (fun j => .int (I a j))
  obtain ⟨vm', X', step⟩ := Xs.arraycopy hx hown (hts _ hw.1) (hts _ hw.2.1) (hts _ hw.2.2.1) (hts _ hw.2.2.2) (src := a0) (dst := a) (cs := vp_cell (pr_ca g 20) (n0, .inl (I a0))) (cd := vp_cell (pr_ca g 20) (n1, .inl (I a))) (srcPos := sp) (destPos := dp) (n := n) (by rw [hT]; exact hc0) (by rw [hT]; exact hc1)
    (fun _ h => by cases h) (fun _ h => by cases h) (fun h => by cases h) (fun h => by cases h) hk0 hk1 hkk0 hkk1 (by simp [refKind]) h1 h2 h3
    (by rw [pr_toInt h1, pr_toInt h3]; show ¬ _ > ((arrV (pr_ca g 20) n0 (fun j => .int (I a0 j))).slots.size : Int); rw [arrV_size]; omega)
    (by rw [pr_toInt h2, pr_toInt h3]; show ¬ _ > ((arrV (pr_ca g 20) n1 (fun j => .int (I a j))).slots.size : Int); rw [arrV_size]; omega)
    (fun vm₁ _ i hi => by
      have e : (vp_cell (pr_ca g 20) (n0, .inl (I a0))).slots.getD (sp.toNatClampNeg + i) .null = .int (I a0 (sp.toNatClampNeg + i)) := by
        show (arrV (pr_ca g 20) n0 (fun j => .int (I a0 j))).slots.getD _ _ = _
        rw [Array.getD_eq_getD_getElem?, arrV_read _ _ (by omega)]
        rfl
      refine ⟨?_, ?_⟩
      · rw [e]; rfl
      · rw [e]; exact trivial)
    (g := F0 m pc lsS (.int n :: .int dp :: .ref a :: .int sp :: .ref a0 :: st)) rfl (by rw [hml]; exact hl.1) (rest := st) rfl (by rw [hb]; exact hd) (Nat.le_trans hd1 hdf) (by show 2 * 0 + _ + _ ≤ _; omega)
  have e1 : copied (vp_cell (pr_ca g 20) (n0, .inl (I a0))) (vp_cell (pr_ca g 20) (n1, .inl (I a))) sp dp n = vp_cell (pr_ca g 20) (n1, .inl (va_cpy (I a0) (I a) sp.toNatClampNeg dp.toNatClampNeg n.toNatClampNeg)) := va_copied (fun z => .int z) _ _ (I a0) (I a) h4
  rw [e1] at X' step
  have hlt : a < H.size := (Array.getElem?_eq_some_iff.mp hc1).1
  have hheap : ((S0.setVm vm').setCell a (vp_cell (pr_ca g 20) (n1, .inl (va_cpy (I a0) (I a) sp.toNatClampNeg dp.toNatClampNeg n.toNatClampNeg)))).heap = H.setIfInBounds a (vp_cell (pr_ca g 20) (n1, .inl (va_cpy (I a0) (I a) sp.toNatClampNeg dp.toNatClampNeg n.toNatClampNeg))) := by rw [← hT]; rfl
  obtain ⟨q1, q2, q3⟩ := pr_cells hheap hlt
  obtain ⟨t, a1, b1⟩ := kk _ _ lsS (hR.upd a hza q2 q3 rfl (fun b hb => pr_ent_congr rfl (pr_row_ne hb) rfl rfl) (fun e9 he9 => by
    rw [pr_ent_i (Or.inl rfl) ha, pr_row_eq] at he9
    cases he9
    exact q1)) hl (pr_S_set hS q2 q3 hza (fun q hq => by obtain ⟨z, -, hz⟩ := List.mem_map.mp hq; rw [← hz])) _ rfl X'
  exact ⟨t, step t a1, b1⟩
theorem pr_copyL (hA : pr_Am g X M d mc ms) (hnL : nL = M.2.2.1) {index a a0 n0 n1 : Nat} {sp dp n : Int32} (hw : pr_cpw M.1.cls index) (hd1 : 1 ≤ d) (ha0 : T.2.1 a0 = (21, n0)) (ha : T.2.1 a = (21, n1)) (h1 : ¬ sp < 0) (h2 : ¬ dp < 0) (h3 : ¬ n < 0) (h4 : sp.toNatClampNeg + n.toNatClampNeg ≤ n0) (h5 : dp.toNatClampNeg + n.toNatClampNeg ≤ n1) (hst : (st.map fun v => v.category).sum + (nativeFrameWords "java/lang/System" "arraycopy" 5 + 11) ≤ 37) (hd : decode M.2.1 pc = .ok (.invokestatic index, 3))
    (kk : pr_G g X nL Q cs sl (pc + 3) ls st T I (pr_rowl L a (va_cpy (L a0) (L a) sp.toNatClampNeg dp.toNatClampNeg n.toNatClampNeg))) : pr_G g X nL Q cs sl pc ls (.int n :: .int dp :: .ref a :: .int sp :: .ref a0 :: st) T I L := by
  subst hnL
  obtain ⟨p, l, e, R, s, m, args, below, meth, c⟩ := X
  intro H locs lsS hR hl hS
  obtain ⟨hx, hb, hml, hown, hts, hK, hSF, hlk, hnt, hzs, hret, hdf, hdl, hmc, hms⟩ := hA
  have hc0 : H[a0]? = some (vp_cell (pr_ca g 21) (n0, .inr (.inl (L a0)))) := (hR.2.2 a0 _ (pr_ent_l (g := g) (I := I) (L := L) ha0)).2
  obtain ⟨hza, hc1'⟩ := hR.2.2 a _ (pr_ent_l (g := g) (I := I) (L := L) ha)
  have hc1 : H[a]? = some (vp_cell (pr_ca g 21) (n1, .inr (.inl (L a)))) := hc1'
  intro S0 hT Xs
  obtain ⟨-, k0, hk0, cm0, hkk0⟩ := (hK.2 1 _ rfl).1 n0 (fun j => .long (L a0 j))
  obtain ⟨-, k1, hk1, cm1, hkk1⟩ := (hK.2 1 _ rfl).1 n1 (fun j => .long (L a j))
  obtain ⟨vm', X', step⟩ := Xs.arraycopy hx hown (hts _ hw.1) (hts _ hw.2.1) (hts _ hw.2.2.1) (hts _ hw.2.2.2) (src := a0) (dst := a) (cs := vp_cell (pr_ca g 21) (n0, .inr (.inl (L a0)))) (cd := vp_cell (pr_ca g 21) (n1, .inr (.inl (L a)))) (srcPos := sp) (destPos := dp) (n := n) (by rw [hT]; exact hc0) (by rw [hT]; exact hc1)
    (fun _ h => by cases h) (fun _ h => by cases h) (fun h => by cases h) (fun h => by cases h) hk0 hk1 hkk0 hkk1 (by simp [refKind]) h1 h2 h3
    (by rw [pr_toInt h1, pr_toInt h3]; show ¬ _ > ((arrV (pr_ca g 21) n0 (fun j => .long (L a0 j))).slots.size : Int); rw [arrV_size]; omega)
    (by rw [pr_toInt h2, pr_toInt h3]; show ¬ _ > ((arrV (pr_ca g 21) n1 (fun j => .long (L a j))).slots.size : Int); rw [arrV_size]; omega)
    (fun vm₁ _ i hi => by
      have e : (vp_cell (pr_ca g 21) (n0, .inr (.inl (L a0)))).slots.getD (sp.toNatClampNeg + i) .null = .long (L a0 (sp.toNatClampNeg + i)) := by
        show (arrV (pr_ca g 21) n0 (fun j => .long (L a0 j))).slots.getD _ _ = _
        rw [Array.getD_eq_getD_getElem?, arrV_read _ _ (by omega)]
        rfl
      refine ⟨?_, ?_⟩
      · rw [e]; rfl
      · rw [e]; exact trivial)
    (g := F0 m pc lsS (.int n :: .int dp :: .ref a :: .int sp :: .ref a0 :: st)) rfl (by rw [hml]; exact hl.1) (rest := st) rfl (by rw [hb]; exact hd) (Nat.le_trans hd1 hdf) (by show 2 * 0 + _ + _ ≤ _; omega)
  have e1 : copied (vp_cell (pr_ca g 21) (n0, .inr (.inl (L a0)))) (vp_cell (pr_ca g 21) (n1, .inr (.inl (L a)))) sp dp n = vp_cell (pr_ca g 21) (n1, .inr (.inl (va_cpy (L a0) (L a) sp.toNatClampNeg dp.toNatClampNeg n.toNatClampNeg))) := va_copied (fun z => .long z) _ _ (L a0) (L a) h4
  rw [e1] at X' step
  have hlt : a < H.size := (Array.getElem?_eq_some_iff.mp hc1).1
  have hheap : ((S0.setVm vm').setCell a (vp_cell (pr_ca g 21) (n1, .inr (.inl (va_cpy (L a0) (L a) sp.toNatClampNeg dp.toNatClampNeg n.toNatClampNeg))))).heap = H.setIfInBounds a (vp_cell (pr_ca g 21) (n1, .inr (.inl (va_cpy (L a0) (L a) sp.toNatClampNeg dp.toNatClampNeg n.toNatClampNeg)))) := by rw [← hT]; rfl
  obtain ⟨q1, q2, q3⟩ := pr_cells hheap hlt
  obtain ⟨t, a1, b1⟩ := kk _ _ lsS (hR.upd a hza q2 q3 rfl (fun b hb => pr_ent_congr rfl rfl (pr_rowl_ne hb) rfl) (fun e9 he9 => by
    rw [pr_ent_l ha, pr_rowl_eq] at he9
    cases he9
    exact q1)) hl (pr_S_set hS q2 q3 hza (fun q hq => by obtain ⟨z, -, hz⟩ := List.mem_map.mp hq; rw [← hz])) _ rfl X'
  exact ⟨t, step t a1, b1⟩
/-- a copy out of a static array -/
theorem pr_copyS (hA : pr_Am g X M d mc ms) (hnL : nL = M.2.2.1) {index a i0 n1 : Nat} {sp dp n : Int32} (hi : i0 < 3) (hw : pr_cpw M.1.cls index) (hd1 : 1 ≤ d) (ha : T.2.1 a = (20, n1)) (h1 : ¬ sp < 0) (h2 : ¬ dp < 0) (h3 : ¬ n < 0) (h4 : sp.toNatClampNeg + n.toNatClampNeg ≤ 5) (h5 : dp.toNatClampNeg + n.toNatClampNeg ≤ n1) (hst : (st.map fun v => v.category).sum + (nativeFrameWords "java/lang/System" "arraycopy" 5 + 11) ≤ 37) (hd : decode M.2.1 pc = .ok (.invokestatic index, 3))
    (kk : pr_G g X nL Q cs sl (pc + 3) ls st T (pr_row I a (va_cpy (pr_sv i0) (I a) sp.toNatClampNeg dp.toNatClampNeg n.toNatClampNeg)) L) : pr_G g X nL Q cs sl pc ls (.int n :: .int dp :: .ref a :: .int sp :: .ref (pr_sa g i0) :: st) T I L := by
  subst hnL
  obtain ⟨p, l, e, R, s, m, args, below, meth, c⟩ := X
  intro H locs lsS hR hl hS
  obtain ⟨hx, hb, hml, hown, hts, hK, hSF, hlk, hnt, hzs, hret, hdf, hdl, hmc, hms⟩ := hA
  obtain ⟨scr, hs1, hs2, hs3, hs4, -, hs5, hs7⟩ := (hSF.1 i0 hi).2
  have hc0 : H[pr_sa g i0]? = some scr := by rw [hS.2.1 _ (Array.getElem?_eq_some_iff.mp hs1).1 hs7]; exact hs1
  obtain ⟨hza, hc1'⟩ := hR.2.2 a _ (pr_ent_i (g := g) (I := I) (L := L) (Or.inl rfl) ha)
  have hc1 : H[a]? = some (vp_cell (pr_ca g 20) (n1, .inl (I a))) := hc1'
  intro S0 hT Xs
  obtain ⟨hs6, k0, hk0, cm0, hkk0⟩ := hs2
  obtain ⟨-, k1, hk1, cm1, hkk1⟩ := (hK.2 0 _ rfl).1 n1 (fun j => .int (I a j))
  obtain ⟨vm', X', step⟩ := Xs.arraycopy hx hown (hts _ hw.1) (hts _ hw.2.1) (hts _ hw.2.2.1) (hts _ hw.2.2.2) (src := pr_sa g i0) (dst := a) (cs := scr) (cd := vp_cell (pr_ca g 20) (n1, .inl (I a))) (srcPos := sp) (destPos := dp) (n := n) (by rw [hT]; exact hc0) (by rw [hT]; exact hc1)
    hs6 (fun _ h => by cases h) hs3 (fun h => by cases h) hk0 hk1 hkk0 hkk1 (by simp [refKind]) h1 h2 h3
    (by rw [pr_toInt h1, pr_toInt h3]; omega)
    (by rw [pr_toInt h2, pr_toInt h3]; show ¬ _ > ((arrV (pr_ca g 20) n1 (fun j => .int (I a j))).slots.size : Int); rw [arrV_size]; omega)
    (fun vm₁ _ i hi => by
      have e : scr.slots.getD (sp.toNatClampNeg + i) .null = .int (pr_sv i0 (sp.toNatClampNeg + i)) := by
        rw [Array.getD_eq_getD_getElem?, hs5 _ (by omega)]
        rfl
      refine ⟨?_, ?_⟩
      · rw [e]; rfl
      · rw [e]; exact trivial)
    (g := F0 m pc lsS (.int n :: .int dp :: .ref a :: .int sp :: .ref (pr_sa g i0) :: st)) rfl (by rw [hml]; exact hl.1) (rest := st) rfl (by rw [hb]; exact hd) (Nat.le_trans hd1 hdf) (by show 2 * 0 + _ + _ ≤ _; omega)
  have e1 : copied scr (vp_cell (pr_ca g 20) (n1, .inl (I a))) sp dp n = vp_cell (pr_ca g 20) (n1, .inl (va_cpy (pr_sv i0) (I a) sp.toNatClampNeg dp.toNatClampNeg n.toNatClampNeg)) := va_copiedX (fun z => .int z) scr _ (pr_sv i0) (I a) hs5 h4
  rw [e1] at X' step
  have hlt : a < H.size := (Array.getElem?_eq_some_iff.mp hc1).1
  have hheap : ((S0.setVm vm').setCell a (vp_cell (pr_ca g 20) (n1, .inl (va_cpy (pr_sv i0) (I a) sp.toNatClampNeg dp.toNatClampNeg n.toNatClampNeg)))).heap = H.setIfInBounds a (vp_cell (pr_ca g 20) (n1, .inl (va_cpy (pr_sv i0) (I a) sp.toNatClampNeg dp.toNatClampNeg n.toNatClampNeg))) := by rw [← hT]; rfl
  obtain ⟨q1, q2, q3⟩ := pr_cells hheap hlt
  obtain ⟨t, a1, b1⟩ := kk _ _ lsS (hR.upd a hza q2 q3 rfl (fun b hb => pr_ent_congr rfl (pr_row_ne hb) rfl rfl) (fun e9 he9 => by
    rw [pr_ent_i (Or.inl rfl) ha, pr_row_eq] at he9
    cases he9
    exact q1)) hl (pr_S_set hS q2 q3 hza (fun q hq => by obtain ⟨z, -, hz⟩ := List.mem_map.mp hq; rw [← hz])) _ rfl X'
  exact ⟨t, step t a1, b1⟩
end PRN
