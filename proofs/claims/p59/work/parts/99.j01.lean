/-! THE JDK'S BUILDER (KIND 8) AND ITS STRINGS (KIND 9): fields, making, copies, tables -/
def jC (ci : Nat) (C : String) (Tc : u_T) (ty0 : Nat → FieldType) : Prop := vwCl[ci]? = some (C, Tc, 4) ∧ ci < 10 ∧ pr_N ci = 4 ∧ (∀ w ∈ u_ws C Tc 4, w ∈ pr_gw) ∧ (∀ k, k < 4 → parseFieldDescriptor (Tc k).2.2.1 = some (ty0 k)) ∧ (∀ a, a < 4 → ∀ b, b < 4 → a ≠ b → (Tc a).2.1 ≠ (Tc b).2.1) ∧
  ∀ k, k < 4 → (pr_ft ci k = 0 ∧ defaultValue (ty0 k) = .int 0) ∨ (pr_ft ci k = 2 ∧ pr_isr (ty0 k) = true)
theorem jC8 : jC 8 RJ4 TJ4 tyJ4 := ⟨rfl, by decide, rfl, kL_J4, tyJ4_ok, nmJ4, fun k hk => by
  rcases (by omega : k = 0 ∨ k = 1 ∨ k = 2 ∨ k = 3) with rfl | rfl | rfl | rfl
  · exact Or.inr ⟨rfl, rfl⟩
  · exact Or.inl ⟨rfl, rfl⟩
  · exact Or.inl ⟨rfl, rfl⟩
  · exact Or.inl ⟨rfl, rfl⟩⟩
theorem jC9 : jC 9 RJ0 TJ0 tyJ0 := ⟨rfl, by decide, rfl, kL_J0, tyJ0_ok, nmJ0, fun k hk => by
  rcases (by omega : k = 0 ∨ k = 1 ∨ k = 2 ∨ k = 3) with rfl | rfl | rfl | rfl
  · exact Or.inr ⟨rfl, rfl⟩
  · exact Or.inl ⟨rfl, rfl⟩
  · exact Or.inl ⟨rfl, rfl⟩
  · exact Or.inl ⟨rfl, rfl⟩⟩
section PRJ
variable {g : pr_C} {X : pr_X} {M : pr_MD} {d mc ms : Nat} {nL : Nat} {Q : State → Prop} {cs sl pc : Nat} {ls st : List Value} {T : pr_T} {I : pr_I} {L : pr_L}
theorem pr_getJ (hA : pr_Am g X M d mc ms) {index ci k a n : Nat} {C : String} {Tc : u_T} {ty0 : Nat → FieldType} (hC : jC ci C Tc ty0) (hk : k < 4) (hlk : Cond.fieldLink M.1.cls index (Tc k).1 (Tc k).2.1 (Tc k).2.2.1 ∈ pr_gw) (ha : T.2.1 a = (ci, n)) (hd : decode M.2.1 pc = .ok (.getfield index, 3)) (kk : pr_G g X nL Q cs sl (pc + 3) ls ((if pr_ft ci k = 0 then Value.int (I a k) else va_rf (T.2.2 a k)) :: st) T I L) : pr_G g X nL Q cs sl pc ls (.ref a :: st) T I L := by
  obtain ⟨p, l, e, R, s, m, args, below, meth, c⟩ := X
  intro H locs lsS hR hl hS
  obtain ⟨h1, h2, h3, h4, h5, h6, h7⟩ := hC
  have he := pr_ent_o (g := g) (I := I) (L := L) h2 ha
  have hat := (hR.2.2 a _ he).2
  have hP : va_P (pr_D g) vwCl [(a, .inr (ci, pr_obj T I a ci))] H := fun j q hq => by rw [pr_one hq]; exact hat
  exact va_get (D := pr_D g) (ci := ci) hA.1 hA.2.1 hA.2.2.2.2.1 h4 hA.2.2.2.1 hA.2.2.2.2.2.1 hP 0 rfl h1 k hk (hA.2.2.2.2.1 _ hlk) (fun x hx => hx) (pr_obj_get (by rw [h3]; exact hk)) hd (kk H locs lsS hR hl hS)
theorem pr_getJI (hA : pr_Am g X M d mc ms) {index ci k a n : Nat} {C : String} {Tc : u_T} {ty0 : Nat → FieldType} {v : Int32} (hC : jC ci C Tc ty0) (hk : k < 4) (ht : pr_ft ci k = 0) (hlk : Cond.fieldLink M.1.cls index (Tc k).1 (Tc k).2.1 (Tc k).2.2.1 ∈ pr_gw) (ha : T.2.1 a = (ci, n)) (hv : I a k = v) (hd : decode M.2.1 pc = .ok (.getfield index, 3)) (kk : pr_G g X nL Q cs sl (pc + 3) ls (.int v :: st) T I L) : pr_G g X nL Q cs sl pc ls (.ref a :: st) T I L :=
  pr_getJ hA hC hk hlk ha hd (by rw [if_pos ht, hv]; exact kk)
theorem pr_getJR (hA : pr_Am g X M d mc ms) {index ci k a n b : Nat} {C : String} {Tc : u_T} {ty0 : Nat → FieldType} (hC : jC ci C Tc ty0) (hk : k < 4) (ht : pr_ft ci k = 2) (hlk : Cond.fieldLink M.1.cls index (Tc k).1 (Tc k).2.1 (Tc k).2.2.1 ∈ pr_gw) (ha : T.2.1 a = (ci, n)) (hb : T.2.2 a k = some b) (hd : decode M.2.1 pc = .ok (.getfield index, 3)) (kk : pr_G g X nL Q cs sl (pc + 3) ls (.ref b :: st) T I L) : pr_G g X nL Q cs sl pc ls (.ref a :: st) T I L :=
  pr_getJ hA hC hk hlk ha hd (by rw [if_neg (by rw [ht]; decide), hb]; exact kk)
theorem pr_putJI (hA : pr_Am g X M d mc ms) {index ci k a n : Nat} {C : String} {Tc : u_T} {ty0 : Nat → FieldType} {v : Int32} (hC : jC ci C Tc ty0) (hk : k < 4) (ht : pr_ft ci k = 0) (hfin : (Tc k).2.2.2 = false) (hn : narrow (ty0 k) (.int v) = .int v) (hf : fits (ty0 k) (.int v) = true) (hlk : Cond.fieldLink M.1.cls index (Tc k).1 (Tc k).2.1 (Tc k).2.2.1 ∈ pr_gw) (ha : T.2.1 a = (ci, n)) (hd : decode M.2.1 pc = .ok (.putfield index, 3))
    (kk : pr_G g X nL Q cs sl (pc + 3) ls st T (pr_up I a k v) L) : pr_G g X nL Q cs sl pc ls (.int v :: .ref a :: st) T I L := by
  obtain ⟨p, l, e, R, s, m, args, below, meth, c⟩ := X
  intro H locs lsS hR hl hS0
  obtain ⟨h1, h2, h3, h4, h5, h6, h7⟩ := hC
  have he := pr_ent_o (g := g) (I := I) (L := L) h2 ha
  obtain ⟨hza, hat⟩ := hR.2.2 a _ he
  have hap := va_apart (own := M.1.cls) hA.2.2.2.2.1 h4 ty0 h5 h6 hA.2.2.2.2.2.1 h1
  obtain ⟨r, hr1, cell, q1, q2, q3, q4⟩ := hat
  have hr : r = (C, Tc, 4) := Option.some.inj (hr1.symm.trans h1)
  subst hr
  obtain ⟨hS, hfc, kC, hkC, hkind⟩ := hA.2.2.2.2.2.1.1 ci _ h1
  obtain ⟨cf, kf, fi, f, hi, hsl⟩ := hS k hk
  have hlay := hA.2.2.2.2.1 _ (h4 _ (u_in_lay hk))
  unfold u_lay at hlay
  rw [if_neg (by rw [hfin]; decide)] at hlay
  have hst := (u_facts hfc hkC (u_lays hA.2.2.2.2.1 h4 hk) hi).1
  have h10 := u_store hfc hkC hkind hlay hi (h5 k hk) (v := .int v) hn hf
  refine W.putK hA.1 hA.2.1 (f := f) ⟨hA.2.2.2.1, hA.2.2.2.2.1 _ hlk, ⟨_, _, _, hi⟩, hst⟩ (by rw [q2]; exact h10) q1 q3 (by rw [hsl]; exact k2_hasslot (q4 k hk)) rfl rfl hd fun H' e1 e2 e3 => ?_
  rw [hsl] at e1 ⊢
  refine kk H' _ lsS (hR.upd a hza e2 e3 rfl (fun b hb => pr_ent_congr rfl (pr_up_ne hb) rfl rfl) fun e9 he9 => ?_) hl (hS0.put e2 e3 hza)
  rw [pr_ent_o h2 ha, ← pr_obj_set ht] at he9
  cases he9
  exact ⟨_, h1, t_OB.to (V := updV (vp_V (pr_obj T I a ci)) k (.int v)) ⟨_, e1, q2, q3, t_set q4 hap hk (.int v)⟩ (fun j _ => vp_updV_set (by rw [pr_obj_len, h3]; exact hk) (.int v) j)⟩
theorem pr_putJR (hA : pr_Am g X M d mc ms) {index ci k a n b : Nat} {C : String} {Tc : u_T} {ty0 : Nat → FieldType} (hC : jC ci C Tc ty0) (hk : k < 4) (ht : pr_ft ci k = 2) (hfin : (Tc k).2.2.2 = false) (hn : narrow (ty0 k) (.ref b) = .ref b) (hf : fits (ty0 k) (.ref b) = true) (hlk : Cond.fieldLink M.1.cls index (Tc k).1 (Tc k).2.1 (Tc k).2.2.1 ∈ pr_gw) (ha : T.2.1 a = (ci, n)) (hd : decode M.2.1 pc = .ok (.putfield index, 3))
    (kk : pr_G g X nL Q cs sl (pc + 3) ls st (pr_upr T a k (some b)) I L) : pr_G g X nL Q cs sl pc ls (.ref b :: .ref a :: st) T I L := by
  obtain ⟨p, l, e, R, s, m, args, below, meth, c⟩ := X
  intro H locs lsS hR hl hS0
  obtain ⟨h1, h2, h3, h4, h5, h6, h7⟩ := hC
  have he := pr_ent_o (g := g) (I := I) (L := L) h2 ha
  obtain ⟨hza, hat⟩ := hR.2.2 a _ he
  have hap := va_apart (own := M.1.cls) hA.2.2.2.2.1 h4 ty0 h5 h6 hA.2.2.2.2.2.1 h1
  obtain ⟨r, hr1, cell, q1, q2, q3, q4⟩ := hat
  have hr : r = (C, Tc, 4) := Option.some.inj (hr1.symm.trans h1)
  subst hr
  obtain ⟨hS, hfc, kC, hkC, hkind⟩ := hA.2.2.2.2.2.1.1 ci _ h1
  obtain ⟨cf, kf, fi, f, hi, hsl⟩ := hS k hk
  have hlay := hA.2.2.2.2.1 _ (h4 _ (u_in_lay hk))
  unfold u_lay at hlay
  rw [if_neg (by rw [hfin]; decide)] at hlay
  have hst := (u_facts hfc hkC (u_lays hA.2.2.2.2.1 h4 hk) hi).1
  have h10 := u_store hfc hkC hkind hlay hi (h5 k hk) (v := .ref b) hn hf
  refine W.putK hA.1 hA.2.1 (f := f) ⟨hA.2.2.2.1, hA.2.2.2.2.1 _ hlk, ⟨_, _, _, hi⟩, hst⟩ (by rw [q2]; exact h10) q1 q3 (by rw [hsl]; exact k2_hasslot (q4 k hk)) rfl rfl hd fun H' e1 e2 e3 => ?_
  rw [hsl] at e1 ⊢
  refine kk H' _ lsS (hR.upd a hza e2 e3 rfl (fun b9 hb => pr_ent_congr rfl rfl rfl (by funext j; simp [pr_upr, hb])) fun e9 he9 => ?_) hl (hS0.put e2 e3 hza)
  rw [pr_ent_o (T := pr_upr T a k (some b)) h2 ha, ← pr_obj_setr ht] at he9
  cases he9
  exact ⟨_, h1, t_OB.to (V := updV (vp_V (pr_obj T I a ci)) k (.ref b)) ⟨_, e1, q2, q3, t_set q4 hap hk (.ref b)⟩ (fun j _ => vp_updV_set (v := .ref b) (by rw [pr_obj_len, h3]; exact hk) j)⟩
/-- a final field of its own class, in a constructor -/
theorem pr_putJF (hA : pr_Am g X M d mc ms) {index ci k a n : Nat} {C : String} {Tc : u_T} {ty0 : Nat → FieldType} {v : Value} {T' : pr_T} {I' : pr_I} (hC : jC ci C Tc ty0) (hk : k < 4) (hfin : (Tc k).2.2.2 = true) (hn : narrow (ty0 k) v = v) (hf : fits (ty0 k) v = true) (hinit : X.2.2.2.2.2.2.2.2.1.name = "<init>") (hown2 : (Tc k).1 = M.1.cls) (hlk : Cond.fieldLink M.1.cls index (Tc k).1 (Tc k).2.1 (Tc k).2.2.1 ∈ pr_gw) (ha : T.2.1 a = (ci, n))
    (hT1 : T'.1 = T.1) (hT2 : T'.2.1 = T.2.1) (hTo : ∀ b, b ≠ a → T'.2.2 b = T.2.2 b) (hIo : ∀ b, b ≠ a → I' b = I b) (ho : (pr_obj T I a ci).set k v = pr_obj T' I' a ci) (hd : decode M.2.1 pc = .ok (.putfield index, 3))
    (kk : pr_G g X nL Q cs sl (pc + 3) ls st T' I' L) : pr_G g X nL Q cs sl pc ls (v :: .ref a :: st) T I L := by
  obtain ⟨p, l, e, R, s, m, args, below, meth, c⟩ := X
  intro H locs lsS hR hl hS0
  obtain ⟨h1, h2, h3, h4, h5, h6, h7⟩ := hC
  have he := pr_ent_o (g := g) (I := I) (L := L) h2 ha
  obtain ⟨hza, hat⟩ := hR.2.2 a _ he
  have hap := va_apart (own := M.1.cls) hA.2.2.2.2.1 h4 ty0 h5 h6 hA.2.2.2.2.2.1 h1
  obtain ⟨r, hr1, cell, q1, q2, q3, q4⟩ := hat
  have hr : r = (C, Tc, 4) := Option.some.inj (hr1.symm.trans h1)
  subst hr
  obtain ⟨hS, hfc, kC, hkC, hkind⟩ := hA.2.2.2.2.2.1.1 ci _ h1
  obtain ⟨cf, kf, fi, f, hi, hsl⟩ := hS k hk
  have hlay := hA.2.2.2.2.1 _ (h4 _ (u_in_lay hk))
  unfold u_lay at hlay
  rw [if_pos hfin] at hlay
  have hst := (u_facts hfc hkC (u_lays hA.2.2.2.2.1 h4 hk) hi).1
  have hcf : m.cls = cf := by
    obtain ⟨_, _, c', _, _, _, -, -, hf', -, -, -, hown3, -⟩ := Cond.laysFinal_spec hlay
    have e1 : c' = cf := by have := hi.symm.trans hf'; simp at this; exact this.1.symm
    have hown4 : s.vm.findClass M.1.cls = some c' := by rw [← hown2]; exact hown3
    rw [← e1]; exact Option.some.inj (hA.2.2.2.1.symm.trans hown4)
  have h10 := u_fits hfc hkC hkind (Or.inr hlay) hi (h5 k hk) (v := v) hn hf
  refine W.putFinK hA.1 hA.2.1 hA.2.2.2.1 (hA.2.2.2.2.1 _ hlk) hi hst hcf hinit (by rw [q2]; exact h10) q1 q3 (by rw [hsl]; exact k2_hasslot (q4 k hk)) rfl rfl hd fun H' e1 e2 e3 => ?_
  rw [hsl] at e1 ⊢
  refine kk H' _ lsS (hR.upd a hza e2 e3 hT1 (fun b9 hb => pr_ent_congr (by rw [hT2]) (hIo b9 hb) rfl (hTo b9 hb)) fun e9 he9 => ?_) hl (hS0.put e2 e3 hza)
  rw [pr_ent_o (T := T') h2 (by rw [hT2]; exact ha), ← ho] at he9
  cases he9
  exact ⟨_, h1, t_OB.to (V := updV (vp_V (pr_obj T I a ci)) k v) ⟨_, e1, q2, q3, t_set q4 hap hk v⟩ (fun j _ => vp_updV_set (v := v) (by rw [pr_obj_len, h3]; exact hk) j)⟩
theorem pr_newJ (hA : pr_Am g X M d mc ms) {index ci : Nat} {C : String} {Tc : u_T} {ty0 : Nat → FieldType} (hC : jC ci C Tc ty0) (hc1 : Cond.classLink M.1.cls index C ∈ pr_gw) (hc2 : Cond.instantiable C 4 ∈ pr_gw) (hc3 : Cond.initialized C ∈ pr_gw) (hcs : cs + 1 ≤ mc) (hsl : sl + 4 ≤ ms) (hd : decode M.2.1 pc = .ok (.new index, 3)) (kk : pr_G g X nL Q (cs + 1) (sl + 4) (pc + 3) ls (.ref T.1 :: st) (pr_new T ci 0) (pr_row I T.1 (fun _ => 0)) L) : pr_G g X nL Q cs sl pc ls st T I L := by
  obtain ⟨p, l, e, R, s, m, args, below, meth, c⟩ := X
  intro H locs lsS hR hl hS
  obtain ⟨h1, h2, h3, h4, h5, h6, h7⟩ := hC
  obtain ⟨hx, hb, hml, hown, hts, hK, hSF, hlk, hnt, hzs, hret, hdf, hdl, hmc, hms⟩ := hA
  have hKn := hK.1 ci _ h1
  refine W.newcK hx hb hown (hts _ hc1) (hts _ hc2) (hts _ hc3) rfl hd (Nat.le_trans hcs hmc) (Nat.le_trans hsl hms) hKn.2.1 hR.1 fun H1 kC hkC e1 z1 o1 => ?_
  have hz : H1.size = H.size + 1 := by rw [z1, hR.1]
  refine kk H1 locs lsS (hR.push z1 o1 (fun b hb => pr_row_ne hb) (fun _ _ => rfl) fun e9 he9 => ?_) hl (pr_va_S_up hS hz (fun q hq => o1 q (by rw [← hR.1]; exact hq)))
  rw [pr_ent_o (n := 0) h2 (by simp [pr_new])] at he9
  cases he9
  refine ⟨_, h1, (u_born ty0 hts h4 hKn hkC e1 h5).to fun j hj => ?_⟩
  unfold vp_V
  rw [List.getD_eq_getElem?_getD, pr_obj_get (by rw [h3]; exact hj)]
  rcases h7 j hj with ⟨q1, q2⟩ | ⟨q1, q2⟩
  · rw [q1, q2]; simp [pr_row]
  · rw [pr_dflt _ q2]; simp [q1, pr_new, va_rf]
/-- System.arraycopy from bytes to bytes -/
theorem pr_copyB (hA : pr_Am g X M d mc ms) (hnL : nL = M.2.2.1) {index a a0 n0 n1 : Nat} {sp dp n : Int32} (hw : pr_cpw M.1.cls index) (hd1 : 1 ≤ d) (ha0 : T.2.1 a0 = (22, n0)) (ha : T.2.1 a = (22, n1)) (h1 : ¬ sp < 0) (h2 : ¬ dp < 0) (h3 : ¬ n < 0) (h4 : sp.toNatClampNeg + n.toNatClampNeg ≤ n0) (h5 : dp.toNatClampNeg + n.toNatClampNeg ≤ n1) (hfit : ∀ i, i < n.toNatClampNeg → fits .byte (.int (I a0 (sp.toNatClampNeg + i))) = true) (hst : (st.map fun v => v.category).sum + (nativeFrameWords "java/lang/System" "arraycopy" 5 + 11) ≤ 37) (hd : decode M.2.1 pc = .ok (.invokestatic index, 3))
    (kk : pr_G g X nL Q cs sl (pc + 3) ls st T (pr_row I a (va_cpy (I a0) (I a) sp.toNatClampNeg dp.toNatClampNeg n.toNatClampNeg)) L) : pr_G g X nL Q cs sl pc ls (.int n :: .int dp :: .ref a :: .int sp :: .ref a0 :: st) T I L := by
  subst hnL
  obtain ⟨p, l, e, R, s, m, args, below, meth, c⟩ := X
  intro H locs lsS hR hl hS
  obtain ⟨hx, hb, hml, hown, hts, hK, hSF, hlk, hnt, hzs, hret, hdf, hdl, hmc, hms⟩ := hA
  have hc0 : H[a0]? = some (vp_cell (pr_ca g 22) (n0, .inl (I a0))) := (hR.2.2 a0 _ (pr_ent_i (g := g) (I := I) (L := L) (Or.inr (Or.inl rfl)) ha0)).2
  obtain ⟨hza, hc1'⟩ := hR.2.2 a _ (pr_ent_i (g := g) (I := I) (L := L) (Or.inr (Or.inl rfl)) ha)
  have hc1 : H[a]? = some (vp_cell (pr_ca g 22) (n1, .inl (I a))) := hc1'
  intro S0 hT Xs
  obtain ⟨-, k0, hk0, cm0, hkk0⟩ := (hK.2 2 _ rfl).1 n0 (fun j => .int (I a0 j))
  obtain ⟨-, k1, hk1, cm1, hkk1⟩ := (hK.2 2 _ rfl).1 n1 (fun j => .int (I a j))
  obtain ⟨vm', X', step⟩ := Xs.arraycopy hx hown (hts _ hw.1) (hts _ hw.2.1) (hts _ hw.2.2.1) (hts _ hw.2.2.2) (src := a0) (dst := a) (cs := vp_cell (pr_ca g 22) (n0, .inl (I a0))) (cd := vp_cell (pr_ca g 22) (n1, .inl (I a))) (srcPos := sp) (destPos := dp) (n := n) (by rw [hT]; exact hc0) (by rw [hT]; exact hc1)
    (fun _ h => by cases h) (fun _ h => by cases h) (fun h => by cases h) (fun h => by cases h) hk0 hk1 hkk0 hkk1 (by simp [refKind]) h1 h2 h3
    (by rw [pr_toInt h1, pr_toInt h3]; show ¬ _ > ((arrV (pr_ca g 22) n0 (fun j => .int (I a0 j))).slots.size : Int); rw [arrV_size]; omega)
    (by rw [pr_toInt h2, pr_toInt h3]; show ¬ _ > ((arrV (pr_ca g 22) n1 (fun j => .int (I a j))).slots.size : Int); rw [arrV_size]; omega)
    (fun vm₁ _ i hi => by
      have e : (vp_cell (pr_ca g 22) (n0, .inl (I a0))).slots.getD (sp.toNatClampNeg + i) .null = .int (I a0 (sp.toNatClampNeg + i)) := by
        show (arrV (pr_ca g 22) n0 (fun j => .int (I a0 j))).slots.getD _ _ = _
        rw [Array.getD_eq_getD_getElem?, arrV_read _ _ (by omega)]
        rfl
      refine ⟨?_, ?_⟩
      · rw [e]; exact hfit i hi
      · rw [e]; exact trivial)
    (g := F0 m pc lsS (.int n :: .int dp :: .ref a :: .int sp :: .ref a0 :: st)) rfl (by rw [hml]; exact hl.1) (rest := st) rfl (by rw [hb]; exact hd) (Nat.le_trans hd1 hdf) (by show 2 * 0 + _ + _ ≤ _; omega)
  have e1 : copied (vp_cell (pr_ca g 22) (n0, .inl (I a0))) (vp_cell (pr_ca g 22) (n1, .inl (I a))) sp dp n = vp_cell (pr_ca g 22) (n1, .inl (va_cpy (I a0) (I a) sp.toNatClampNeg dp.toNatClampNeg n.toNatClampNeg)) := va_copied (fun z => .int z) _ _ (I a0) (I a) h4
  rw [e1] at X' step
  have hlt : a < H.size := (Array.getElem?_eq_some_iff.mp hc1).1
  have hheap : ((S0.setVm vm').setCell a (vp_cell (pr_ca g 22) (n1, .inl (va_cpy (I a0) (I a) sp.toNatClampNeg dp.toNatClampNeg n.toNatClampNeg)))).heap = H.setIfInBounds a (vp_cell (pr_ca g 22) (n1, .inl (va_cpy (I a0) (I a) sp.toNatClampNeg dp.toNatClampNeg n.toNatClampNeg))) := by rw [← hT]; rfl
  obtain ⟨q1, q2, q3⟩ := pr_cells hheap hlt
  obtain ⟨t, a1, b1⟩ := kk _ _ lsS (hR.upd a hza q2 q3 rfl (fun b hb => pr_ent_congr rfl (pr_row_ne hb) rfl rfl) (fun e9 he9 => by
    rw [pr_ent_i (Or.inr (Or.inl rfl)) ha, pr_row_eq] at he9
    cases he9
    exact q1)) hl (pr_S_set hS q2 q3 hza (fun q hq => by obtain ⟨z, -, hz⟩ := List.mem_map.mp hq; rw [← hz])) _ rfl X'
  exact ⟨t, step t a1, b1⟩
/-- the letters of the law's texts -/
def pr_lch (k j : Nat) : Int32 := (pr_lbyt.getD k []).getD j 0
/-- System.arraycopy from a text of the law -/
theorem pr_copyT (hA : pr_Am g X M d mc ms) (hnL : nL = M.2.2.1) {index a k n1 : Nat} {sp dp n : Int32} (hk : k < 6) (hw : pr_cpw M.1.cls index) (hd1 : 1 ≤ d) (ha : T.2.1 a = (22, n1)) (h1 : ¬ sp < 0) (h2 : ¬ dp < 0) (h3 : ¬ n < 0) (h4 : sp.toNatClampNeg + n.toNatClampNeg ≤ pr_llen.getD k 0) (h5 : dp.toNatClampNeg + n.toNatClampNeg ≤ n1) (hst : (st.map fun v => v.category).sum + (nativeFrameWords "java/lang/System" "arraycopy" 5 + 11) ≤ 37) (hd : decode M.2.1 pc = .ok (.invokestatic index, 3))
    (kk : pr_G g X nL Q cs sl (pc + 3) ls st T (pr_row I a (va_cpy (pr_lch k) (I a) sp.toNatClampNeg dp.toNatClampNeg n.toNatClampNeg)) L) : pr_G g X nL Q cs sl pc ls (.int n :: .int dp :: .ref a :: .int sp :: .ref (pr_av g (k + 10)) :: st) T I L := by
  subst hnL
  obtain ⟨p, l, e, R, s, m, args, below, meth, c⟩ := X
  intro H locs lsS hR hl hS
  obtain ⟨hx, hb, hml, hown, hts, hK, hSF, hlk, hnt, hzs, hret, hdf, hdl, hmc, hms⟩ := hA
  have hTT := (hSF.2.2.2.2.2.2.2.2.2.2.1.1 k hk).2.2.2
  obtain ⟨scr, hs1, hs2, hs3, hs4, -, hs5, hs7⟩ := hTT
  have hc0 : H[pr_av g (k + 10)]? = some scr := by rw [hS.2.1 _ (Array.getElem?_eq_some_iff.mp hs1).1 hs7]; exact hs1
  obtain ⟨hza, hc1'⟩ := hR.2.2 a _ (pr_ent_i (g := g) (I := I) (L := L) (Or.inr (Or.inl rfl)) ha)
  have hc1 : H[a]? = some (vp_cell (pr_ca g 22) (n1, .inl (I a))) := hc1'
  intro S0 hT Xs
  obtain ⟨hs6, k0, hk0, cm0, hkk0⟩ := hs2
  obtain ⟨-, k1, hk1, cm1, hkk1⟩ := (hK.2 2 _ rfl).1 n1 (fun j => .int (I a j))
  have hb6 : ∀ k, k < 6 → ∀ j, j < pr_llen.getD k 0 → fits .byte (.int (pr_lch k j)) = true := by decide +kernel
  obtain ⟨vm', X', step⟩ := Xs.arraycopy hx hown (hts _ hw.1) (hts _ hw.2.1) (hts _ hw.2.2.1) (hts _ hw.2.2.2) (src := pr_av g (k + 10)) (dst := a) (cs := scr) (cd := vp_cell (pr_ca g 22) (n1, .inl (I a))) (srcPos := sp) (destPos := dp) (n := n) (by rw [hT]; exact hc0) (by rw [hT]; exact hc1)
    hs6 (fun _ h => by cases h) hs3 (fun h => by cases h) hk0 hk1 hkk0 hkk1 (by simp [refKind]) h1 h2 h3
    (by rw [pr_toInt h1, pr_toInt h3]; omega)
    (by rw [pr_toInt h2, pr_toInt h3]; show ¬ _ > ((arrV (pr_ca g 22) n1 (fun j => .int (I a j))).slots.size : Int); rw [arrV_size]; omega)
    (fun vm₁ _ i hi => by
      have e : scr.slots.getD (sp.toNatClampNeg + i) .null = .int (pr_lch k (sp.toNatClampNeg + i)) := by
        rw [Array.getD_eq_getD_getElem?, hs5 _ (by omega)]
        rfl
      refine ⟨?_, ?_⟩
      · rw [e]; exact hb6 k hk _ (by omega)
      · rw [e]; exact trivial)
    (g := F0 m pc lsS (.int n :: .int dp :: .ref a :: .int sp :: .ref (pr_av g (k + 10)) :: st)) rfl (by rw [hml]; exact hl.1) (rest := st) rfl (by rw [hb]; exact hd) (Nat.le_trans hd1 hdf) (by show 2 * 0 + _ + _ ≤ _; omega)
  have e1 : copied scr (vp_cell (pr_ca g 22) (n1, .inl (I a))) sp dp n = vp_cell (pr_ca g 22) (n1, .inl (va_cpy (pr_lch k) (I a) sp.toNatClampNeg dp.toNatClampNeg n.toNatClampNeg)) := va_copiedX (fun z => .int z) scr _ (pr_lch k) (I a) hs5 h4
  rw [e1] at X' step
  have hlt : a < H.size := (Array.getElem?_eq_some_iff.mp hc1).1
  have hheap : ((S0.setVm vm').setCell a (vp_cell (pr_ca g 22) (n1, .inl (va_cpy (pr_lch k) (I a) sp.toNatClampNeg dp.toNatClampNeg n.toNatClampNeg)))).heap = H.setIfInBounds a (vp_cell (pr_ca g 22) (n1, .inl (va_cpy (pr_lch k) (I a) sp.toNatClampNeg dp.toNatClampNeg n.toNatClampNeg))) := by rw [← hT]; rfl
  obtain ⟨q1, q2, q3⟩ := pr_cells hheap hlt
  obtain ⟨t, a1, b1⟩ := kk _ _ lsS (hR.upd a hza q2 q3 rfl (fun b hb => pr_ent_congr rfl (pr_row_ne hb) rfl rfl) (fun e9 he9 => by
    rw [pr_ent_i (Or.inr (Or.inl rfl)) ha, pr_row_eq] at he9
    cases he9
    exact q1)) hl (pr_S_set hS q2 q3 hza (fun q hq => by obtain ⟨z, -, hz⟩ := List.mem_map.mp hq; rw [← hz])) _ rfl X'
  exact ⟨t, step t a1, b1⟩
/-- a text of the law -/
theorem pr_lds' (hA : pr_Am g X M d mc ms) {index k : Nat} {tx : String} (hk : (M.1.cls, index, tx, k) ∈ pr_strs) (hd : decode M.2.1 pc = .ok (.ldc index, 2)) (kk : pr_G g X nL Q cs sl (pc + 2) ls (.ref (pr_ak g k) :: st) T I L) : pr_G g X nL Q cs sl pc ls st T I L := pr_lds hA hk hd kk
theorem pr_lgetv (hA : pr_Am g X M d mc ms) {k : Nat} (hk : k < 6) (hM : M.1.cls = RJ0) (hd : decode M.2.1 pc = .ok (.getfield 9, 3)) (kk : pr_G g X nL Q cs sl (pc + 3) ls (.ref (pr_av g (k + 10)) :: st) T I L) : pr_G g X nL Q cs sl pc ls (.ref (pr_ak g (k + 10)) :: st) T I L := by
  obtain ⟨p, l, e, R, s, m, args, below, meth, c⟩ := X
  intro H locs lsS hR hl hS
  obtain ⟨hx, hb, hml, hown, hts, hK, hSF, hlk, hnt, hzs, hret, hdf, hdl, hmc, hms⟩ := hA
  rw [hM] at hown
  exact vk_getf hx hb (hSF.2.2.2.2.2.2.2.2.2.2.1.1 k hk).2.2.1 hS hown (hts _ kF_J0_9) (fun _ h => h) hd (kk H locs lsS hR hl hS)
theorem pr_lgetc (hA : pr_Am g X M d mc ms) {k : Nat} (hk : k < 6) (hM : M.1.cls = RJ0) (hd : decode M.2.1 pc = .ok (.getfield 15, 3)) (kk : pr_G g X nL Q cs sl (pc + 3) ls (.int 0 :: st) T I L) : pr_G g X nL Q cs sl pc ls (.ref (pr_ak g (k + 10)) :: st) T I L := by
  obtain ⟨p, l, e, R, s, m, args, below, meth, c⟩ := X
  intro H locs lsS hR hl hS
  obtain ⟨hx, hb, hml, hown, hts, hK, hSF, hlk, hnt, hzs, hret, hdf, hdl, hmc, hms⟩ := hA
  rw [hM] at hown
  exact vk_getf hx hb (hSF.2.2.2.2.2.2.2.2.2.2.1.1 k hk).2.1 hS hown (hts _ kF_J0_15) (fun _ h => h) hd (kk H locs lsS hR hl hS)
theorem pr_lalen (hA : pr_Am g X M d mc ms) {k : Nat} (hk : k < 6) (hd : decode M.2.1 pc = .ok (.arraylength, 1)) (kk : pr_G g X nL Q cs sl (pc + 1) ls (.int (nI (pr_llen.getD k 0)) :: st) T I L) : pr_G g X nL Q cs sl pc ls (.ref (pr_av g (k + 10)) :: st) T I L := by
  obtain ⟨p, l, e, R, s, m, args, below, meth, c⟩ := X
  intro H locs lsS hR hl hS
  obtain ⟨hx, hb, hml, hown, hts, hK, hSF, hlk, hnt, hzs, hret, hdf, hdl, hmc, hms⟩ := hA
  exact va_tlen hx hb (hSF.2.2.2.2.2.2.2.2.2.2.1.1 k hk).2.2.2 hS rfl hd (kk H locs lsS hR hl hS)
/-- COMPACT_STRINGS, from any class that names it -/
theorem pr_getsC (hA : pr_Am g X M d mc ms) {index : Nat} (hl1 : Cond.fieldLink M.1.cls index RJ0 "COMPACT_STRINGS" "Z" ∈ pr_gw) (hd : decode M.2.1 pc = .ok (.getstatic index, 3)) (kk : pr_G g X nL Q cs sl (pc + 3) ls (.int 1 :: st) T I L) : pr_G g X nL Q cs sl pc ls st T I L := by
  obtain ⟨p, l, e, R, s, m, args, below, meth, c⟩ := X
  intro H locs lsS hR hl hS
  obtain ⟨hx, hb, hml, hown, hts, hK, hSF, hlk, hnt, hzs, hret, hdf, hdl, hmc, hms⟩ := hA
  exact va_gets hx hb hSF.2.2.2.2.2.1 hS hown (hts _ hl1) (fun _ h => h) hd (kk H locs lsS hR hl hS)
/-- the digits' tables -/
theorem pr_getsD (hA : pr_Am g X M d mc ms) {index : Nat} (i : Nat) (hi : i < 2) (hl1 : Cond.fieldLink M.1.cls index RJ6 (pr_dn i) "[B" ∈ pr_gw) (hd : decode M.2.1 pc = .ok (.getstatic index, 3)) (kk : pr_G g X nL Q cs sl (pc + 3) ls (.ref (pr_sa g (i + 3)) :: st) T I L) : pr_G g X nL Q cs sl pc ls st T I L := by
  obtain ⟨p, l, e, R, s, m, args, below, meth, c⟩ := X
  intro H locs lsS hR hl hS
  obtain ⟨hx, hb, hml, hown, hts, hK, hSF, hlk, hnt, hzs, hret, hdf, hdl, hmc, hms⟩ := hA
  exact va_gets hx hb (hSF.2.2.2.2.2.2.2.2.2.2.2.1 i hi).1 hS hown (hts _ hl1) (fun _ h => h) hd (kk H locs lsS hR hl hS)
theorem pr_dald (hA : pr_Am g X M d mc ms) {i : Nat} (hi : i < 2) {j : Nat} (hj : j < 100) (hd : decode M.2.1 pc = .ok (.baload, 1)) (kk : pr_G g X nL Q cs sl (pc + 1) ls (.int (pr_dg i j) :: st) T I L) : pr_G g X nL Q cs sl pc ls (.int (nI j) :: .ref (pr_sa g (i + 3)) :: st) T I L := by
  obtain ⟨p, l, e, R, s, m, args, below, meth, c⟩ := X
  intro H locs lsS hR hl hS
  obtain ⟨hx, hb, hml, hown, hts, hK, hSF, hlk, hnt, hzs, hret, hdf, hdl, hmc, hms⟩ := hA
  exact va_tb hx hb (hSF.2.2.2.2.2.2.2.2.2.2.2.1 i hi).2 hS (nI_vin hj (by omega)) (by rw [nI_clamp (by omega)]) hd (kk H locs lsS hR hl hS)
/-- a copy of bytes -/
theorem pr_cloneB (hA : pr_Am g X M d mc ms) (hnL : nL = M.2.2.1) {index a n : Nat} (hw1 : Cond.methodLink M.1.cls index ⟨"[B", "clone", "()Ljava/lang/Object;"⟩ ∈ pr_gw) (hw2 : Cond.sameMethod "[B" "java/lang/Object" "clone" "()Ljava/lang/Object;" ∈ pr_gw) (hw3 : Cond.native ⟨"java/lang/Object", "clone", "()Ljava/lang/Object;"⟩ ∈ pr_gw) (hw4 : Cond.instanceMethod ⟨"java/lang/Object", "clone", "()Ljava/lang/Object;"⟩ ∈ pr_gw)
    (hw5 : Cond.selects "[B" ⟨"[B", "clone", "()Ljava/lang/Object;"⟩ ⟨"java/lang/Object", "clone", "()Ljava/lang/Object;"⟩ ∈ pr_gw) (hd1 : 1 ≤ d) (ha : T.2.1 a = (22, n)) (hfit : ∀ i, i < n → fits .byte (.int (I a i)) = true) (hcs : cs + 1 ≤ mc) (hsl : sl + n ≤ ms) (hst : (st.map fun v => v.category).sum ≤ 8) (hd : decode M.2.1 pc = .ok (.invokevirtual index, 3))
    (kk : pr_G g X nL Q (cs + 1) (sl + n) (pc + 3) ls (.ref T.1 :: st) (pr_new T 22 n) (pr_row I T.1 (I a)) L) : pr_G g X nL Q cs sl pc ls (.ref a :: st) T I L := by
  subst hnL
  obtain ⟨p, l, e, R, s, m, args, below, meth, c⟩ := X
  intro H locs lsS hR hl hS
  obtain ⟨hx, hb, hml, hown, hts, hK, hSF, hlk, hnt, hzs, hret, hdf, hdl, hmc, hms⟩ := hA
  obtain ⟨hza, hc1'⟩ := hR.2.2 a _ (pr_ent_i (g := g) (I := I) (L := L) (Or.inr (Or.inl rfl)) ha)
  have hc1 : H[a]? = some (vp_cell (pr_ca g 22) (n, .inl (I a))) := hc1'
  have hnm : s.vm.findClass "[B" = some (pr_ca g 22) := (hK.2 2 _ rfl).2
  have hcl : va_Nw (.castable "[B" "java/lang/Cloneable") s := hSF.2.2.2.2.2.2.2.2.1 _ (by decide +kernel)
  obtain ⟨c0, t0', f1, f2, f3⟩ := Cond.castable_spec (va_Nw.use (A := args) rfl hcl)
  cases hnm.symm.trans f1
  intro S0 hT Xs
  have hcellT : S0.heap[a]? = some (vp_cell (pr_ca g 22) (n, .inl (I a))) := by rw [hT]; exact hc1
  have hsz : (vp_cell (pr_ca g 22) (n, .inl (I a))).slots.size = n := arrV_size _ _ _
  obtain ⟨-, kA, hkA, comp, hkind⟩ := State.isArrayOf_alike Xs.warmed.alike ((hK.2 2 _ rfl).1 0 (fun _ => .null))
  obtain ⟨-, kS, hkS, compS, hkindS⟩ := (hK.2 2 _ rfl).1 0 (fun _ => .null)
  obtain ⟨vm', X', step⟩ := Xs.cloneArray hx hown (hts _ hw1) (hts _ hw2) (hts _ hw3) (hts _ hw4) (hts _ hw5) (a := a) (cell := vp_cell (pr_ca g 22) (n, .inl (I a))) hcellT (fun k h => by cases h) (fun h => by cases h) hnm f2 f3
    (fun i v hv => by
      have hk' : S0.vm.classes[pr_ca g 22]? = some kA := hkA
      have hi : i < n := by
        have := (Array.getElem?_eq_some_iff.mp hv).1
        rw [hsz] at this; exact this
      have hv2 : v = .int (I a i) := by
        have e : (vp_cell (pr_ca g 22) (n, .inl (I a))).slots[i]? = some (.int (I a i)) := arrV_read _ _ hi
        exact Option.some.inj (hv.symm.trans e)
      have hf2 := hfit i hi
      rw [← hv2] at hf2
      show State.fitsSlot _ (pr_ca g 22) _ _ _ = true
      simpa [State.fitsSlot, State.slotType?, hk', hkind] using hf2)
    (g := F0 m pc lsS (.ref a :: st)) rfl (by rw [hml]; exact hl.1) rfl (by rw [hb]; exact hd) (Nat.le_trans hd1 hdf) (by show 2 * 0 + _ + 14 ≤ _; omega) (Nat.le_trans hcs hmc) (by rw [hsz]; exact Nat.le_trans hsl hms) (hloader := Vm.clonesLoader_of_array hkS hkindS)
  have hcellE : ({ cls := (vp_cell (pr_ca g 22) (n, .inl (I a))).cls, slots := (vp_cell (pr_ca g 22) (n, .inl (I a))).slots } : Cell) = vp_cell (pr_ca g 22) (n, .inl (I a)) := rfl
  rw [hcellE, hsz] at X'
  obtain ⟨H1, hH1⟩ : ∃ H1 : Heap, H.push (vp_cell (pr_ca g 22) (n, .inl (I a))) = H1 := ⟨_, rfl⟩
  have z1 : H1.size = T.1 + 1 := by rw [← hH1, Array.size_push, hR.1]
  have e1 : H1[T.1]? = some (vp_cell (pr_ca g 22) (n, .inl (I a))) := by rw [← hH1, ← hR.1, Array.getElem?_push_size]
  have o1 : ∀ q : Nat, q < T.1 → H1[q]? = H[q]? := fun q hq => by rw [← hH1, Array.getElem?_push, if_neg (by rw [hR.1]; exact Nat.ne_of_lt hq)]
  obtain ⟨t, a1, b1⟩ := kk H1 locs lsS (hR.push z1 o1 (fun b hb => pr_row_ne hb) (fun _ _ => rfl) fun e9 he9 => by
      rw [pr_ent_i (n := n) (Or.inr (Or.inl rfl)) (by simp [pr_new]), pr_row_eq] at he9
      cases he9
      exact e1) hl (pr_va_S_up hS (by rw [z1, hR.1]) (fun q hq => o1 q (by rw [← hR.1]; exact hq))) ((S0.setVm vm').pushCell (vp_cell (pr_ca g 22) (n, .inl (I a)))) (by rw [← hH1, ← hT]; rfl) X'
  refine ⟨t, step t ?_, b1⟩
  rw [hcellE, hT, hR.1]
  exact a1
theorem pr_castB (hA : pr_Am g X M d mc ms) {index a n : Nat} (hw1 : Cond.classLink M.1.cls index "[B" ∈ pr_gw) (ha : T.2.1 a = (22, n)) (hd : decode M.2.1 pc = .ok (.checkcast index, 3)) (kk : pr_G g X nL Q cs sl (pc + 3) ls (.ref a :: st) T I L) : pr_G g X nL Q cs sl pc ls (.ref a :: st) T I L := by
  obtain ⟨p, l, e, R, s, m, args, below, meth, c⟩ := X
  intro H locs lsS hR hl hS
  obtain ⟨hx, hb, hml, hown, hts, hK, hSF, hlk, hnt, hzs, hret, hdf, hdl, hmc, hms⟩ := hA
  have hat := (hR.2.2 a _ (pr_ent_i (g := g) (I := I) (L := L) (Or.inr (Or.inl rfl)) ha)).2
  have hP : va_P (pr_D g) vwCl [(a, .inl (pr_ca g 22, n, .inl (I a)))] H := fun j q hq => by rw [pr_one hq]; exact hat
  exact va_castA hx hb hown (hts _ hw1) hP 0 rfl (hK.2 2 _ rfl).2 hd (kk H locs lsS hR hl hS)
theorem pr_newB (hA : pr_Am g X M d mc ms) {j : Int32} (n : Nat) (hw : Cond.arrayClass .byte ∈ pr_gw) (hn : ¬ j < 0) (hN : j.toNatClampNeg = n) (hsm : n ≤ 60000000) (hcs : cs + 1 ≤ mc) (hsl : sl + n ≤ ms) (hd : decode M.2.1 pc = .ok (.newarray .byte, 2)) (kk : pr_G g X nL Q (cs + 1) (sl + n) (pc + 2) ls (.ref T.1 :: st) (pr_new T 22 n) (pr_row I T.1 (fun _ => 0)) L) : pr_G g X nL Q cs sl pc ls (.int j :: st) T I L :=
  pr_newA (at0 := .byte) hA n 22 2 rfl (Or.inr (Or.inl rfl)) rfl hw hn hN hsm hcs hsl hd kk
end PRJ
