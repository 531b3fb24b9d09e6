/-! RULES OF THE HEAP -/
theorem pr_up_ne {I : pr_I} {a b k : Nat} {v : Int32} (h : b ≠ a) : pr_up I a k v b = I b := by funext j; simp [pr_up, h]
theorem pr_up_eq {I : pr_I} {a k : Nat} {v : Int32} : pr_up I a k v a = upd (I a) k v := by funext j; simp [pr_up, upd]
theorem pr_upl_ne {L : pr_L} {a b k : Nat} {v : Int64} (h : b ≠ a) : pr_upl L a k v b = L b := by funext j; simp [pr_upl, h]
theorem pr_upl_eq {L : pr_L} {a k : Nat} {v : Int64} : pr_upl L a k v a = vp_updL (L a) k v := by funext j; simp [pr_upl, vp_updL]
theorem pr_ent_congr {g : pr_C} {T T' : pr_T} {I I' : pr_I} {L L' : pr_L} {b : Nat} (h1 : T'.2.1 b = T.2.1 b) (h2 : I' b = I b) (h3 : L' b = L b) (h4 : T'.2.2 b = T.2.2 b) : pr_ent g T' I' L' b = pr_ent g T I L b := by
  unfold pr_ent pr_obj
  rw [h1, h2, h3, h4]
theorem pr_Rep.upd {g : pr_C} {T T' : pr_T} {I I' : pr_I} {L L' : pr_L} {H H' : Heap} (hR : pr_Rep g T I L H) (a : Nat) (hz : pr_z g ≤ a) (hsz : H'.size = H.size) (ho : ∀ q, q ≠ a → H'[q]? = H[q]?) (h1 : T'.1 = T.1) (hoth : ∀ b, b ≠ a → pr_ent g T' I' L' b = pr_ent g T I L b) (hat : ∀ e, pr_ent g T' I' L' a = some e → va_at (pr_D g) vwCl (a, e) H') : pr_Rep g T' I' L' H' := by
  refine ⟨by rw [hsz, h1]; exact hR.1, by rw [h1]; exact hR.2.1, fun b e hb => ?_⟩
  by_cases hab : b = a
  · subst hab; exact ⟨hz, hat e hb⟩
  · rw [hoth b hab] at hb
    obtain ⟨h2, h3⟩ := hR.2.2 b e hb
    exact ⟨h2, h3.kept (ho b hab)⟩
theorem pr_ent_i {g : pr_C} {T : pr_T} {I : pr_I} {L : pr_L} {a n t : Nat} (ht : t = 20 ∨ t = 22 ∨ t = 23) (ha : T.2.1 a = (t, n)) : pr_ent g T I L a = some (.inl (pr_ca g t, n, .inl (I a))) := by
  unfold pr_ent
  rw [ha]
  have : ¬ t < 10 := by omega
  simp [this, ht]
theorem pr_ent_l {g : pr_C} {T : pr_T} {I : pr_I} {L : pr_L} {a n : Nat} (ha : T.2.1 a = (21, n)) : pr_ent g T I L a = some (.inl (pr_ca g 21, n, .inr (.inl (L a)))) := by
  unfold pr_ent; rw [ha]; simp
theorem pr_ent_r {g : pr_C} {T : pr_T} {I : pr_I} {L : pr_L} {a n t : Nat} (ht : t = 24 ∨ t = 25) (ha : T.2.1 a = (t, n)) : pr_ent g T I L a = some (.inl (pr_ca g t, n, .inr (.inr (.inr (.inr (T.2.2 a)))))) := by
  unfold pr_ent
  rw [ha]
  rcases ht with rfl | rfl <;> simp
theorem pr_ent_o {g : pr_C} {T : pr_T} {I : pr_I} {L : pr_L} {a n ci : Nat} (hc : ci < 10) (ha : T.2.1 a = (ci, n)) : pr_ent g T I L a = some (.inr (ci, pr_obj T I a ci)) := by
  unfold pr_ent; rw [ha]; simp [hc]
theorem pr_obj_get {T : pr_T} {I : pr_I} {a ci k : Nat} (hk : k < pr_N ci) : (pr_obj T I a ci)[k]? = some (if pr_ft ci k = 0 then Value.int (I a k) else va_rf (T.2.2 a k)) := by
  unfold pr_obj; rw [List.getElem?_map, List.getElem?_range hk]; rfl
theorem pr_obj_len {T : pr_T} {I : pr_I} {a ci : Nat} : (pr_obj T I a ci).length = pr_N ci := by simp [pr_obj]
theorem pr_obj_set {T : pr_T} {I : pr_I} {a ci k : Nat} {v : Int32} (ht : pr_ft ci k = 0) : (pr_obj T I a ci).set k (.int v) = pr_obj T (pr_up I a k v) a ci := by
  apply List.ext_getElem?
  intro j
  by_cases hj : j < pr_N ci
  · rw [pr_obj_get hj]
    by_cases e : j = k
    · subst e
      rw [List.getElem?_set_self (by rw [pr_obj_len]; exact hj)]
      simp [ht, pr_up]
    · rw [List.getElem?_set_ne (Ne.symm e), pr_obj_get hj]
      simp [pr_up, e]
  · rw [List.getElem?_eq_none (by rw [List.length_set, pr_obj_len]; omega), List.getElem?_eq_none (by rw [pr_obj_len]; omega)]
theorem pr_obj_setr {T : pr_T} {I : pr_I} {a ci k : Nat} {v : Option Nat} (ht : pr_ft ci k = 2) : (pr_obj T I a ci).set k (va_rf v) = pr_obj (pr_upr T a k v) I a ci := by
  apply List.ext_getElem?
  intro j
  by_cases hj : j < pr_N ci
  · rw [pr_obj_get hj]
    by_cases e : j = k
    · subst e
      rw [List.getElem?_set_self (by rw [pr_obj_len]; exact hj)]
      simp [ht, pr_upr]
    · rw [List.getElem?_set_ne (Ne.symm e), pr_obj_get hj]
      simp [pr_upr, e]
  · rw [List.getElem?_eq_none (by rw [List.length_set, pr_obj_len]; omega), List.getElem?_eq_none (by rw [pr_obj_len]; omega)]
def pr_isr : FieldType → Bool
  | .object _ => true
  | .array _ => true
  | _ => false
/-- what is known of a class -/
def pr_Cl (ci : Nat) (C : String) (Tc : u_T) (N : Nat) (ty0 : Nat → FieldType) : Prop := vwCl[ci]? = some (C, Tc, N) ∧ ci < 10 ∧ N = pr_N ci ∧ (∀ w ∈ u_ws C Tc N, w ∈ pr_gw) ∧ (∀ k, k < N → parseFieldDescriptor (Tc k).2.2.1 = some (ty0 k)) ∧ (∀ a, a < N → ∀ b, b < N → a ≠ b → (Tc a).2.1 ≠ (Tc b).2.1) ∧
  ∀ k, k < N → (Tc k).1 = C ∧ ((pr_ft ci k = 0 ∧ ty0 k = .int ∧ (Tc k).2.2.2 = false) ∨ (pr_ft ci k = 2 ∧ pr_isr (ty0 k) = true ∧ (Tc k).2.2.2 = true))
theorem pr_Cl0 : pr_Cl 0 RX0 TX0 5 tyX0 := ⟨rfl, by decide, rfl, kL_X0, tyX0_ok, nmX0, by decide +kernel⟩
theorem pr_Cl1 : pr_Cl 1 RX1 TX1 6 tyX1 := ⟨rfl, by decide, rfl, kL_X1, tyX1_ok, nmX1, by decide +kernel⟩
theorem pr_Cl2 : pr_Cl 2 RX2 TX2 9 tyX2 := ⟨rfl, by decide, rfl, kL_X2, tyX2_ok, nmX2, by decide +kernel⟩
theorem pr_Cl3 : pr_Cl 3 RX3 TX3 3 tyX3 := ⟨rfl, by decide, rfl, kL_X3, tyX3_ok, nmX3, by decide +kernel⟩
theorem pr_Cl4 : pr_Cl 4 RX4 TX4 18 tyX4 := ⟨rfl, by decide, rfl, kL_X4, tyX4_ok, nmX4, by decide +kernel⟩
theorem pr_Cl5 : pr_Cl 5 RX5 TX5 9 tyX5 := ⟨rfl, by decide, rfl, kL_X5, tyX5_ok, nmX5, by decide +kernel⟩
theorem pr_Cl6 : pr_Cl 6 RX6 TX6 8 tyX6 := ⟨rfl, by decide, rfl, kL_X6, tyX6_ok, nmX6, by decide +kernel⟩
theorem pr_Cl7 : pr_Cl 7 RX7 TX7 5 tyX7 := ⟨rfl, by decide, rfl, kL_X7, tyX7_ok, nmX7, by decide +kernel⟩
/-- the entry 'index' of own's pool names the field k of class ci -/
def pr_F (own : String) (index ci k : Nat) : Prop := ∃ (C : String) (Tc : u_T) (N : Nat) (ty0 : Nat → FieldType), pr_Cl ci C Tc N ty0 ∧ k < N ∧ Cond.fieldLink own index C (Tc k).2.1 (Tc k).2.2.1 ∈ pr_gw
theorem pr_one {α : Type} {x y : α} {k : Nat} (h : [x][k]? = some y) : y = x := by
  cases k with
  | zero => simpa using h.symm
  | succ k => simp at h
section PRH
variable {g : pr_C} {X : pr_X} {M : pr_MD} {d mc ms : Nat} {nL : Nat} {Q : State → Prop} {cs sl pc : Nat} {ls st : List Value} {T : pr_T} {I : pr_I} {L : pr_L}
theorem pr_getV (hA : pr_Am g X M d mc ms) {index ci k a n : Nat} (hF : pr_F M.1.cls index ci k) (ha : T.2.1 a = (ci, n)) (hd : decode M.2.1 pc = .ok (.getfield index, 3)) (kk : pr_G g X nL Q cs sl (pc + 3) ls ((if pr_ft ci k = 0 then Value.int (I a k) else va_rf (T.2.2 a k)) :: st) T I L) : pr_G g X nL Q cs sl pc ls (.ref a :: st) T I L := by
  obtain ⟨p, l, e, R, s, m, args, below, meth, c⟩ := X
  intro H locs lsS hR hl hS
  obtain ⟨C, Tc, N, ty0, ⟨h1, h2, h3, h4, h5, h6, h7⟩, hk, hlk⟩ := hF
  have he := pr_ent_o (g := g) (I := I) (L := L) h2 ha
  have hat := (hR.2.2 a _ he).2
  have hP : va_P (pr_D g) vwCl [(a, .inr (ci, pr_obj T I a ci))] H := fun j q hq => by rw [pr_one hq]; exact hat
  exact va_get (D := pr_D g) (ci := ci) hA.1 hA.2.1 hA.2.2.2.2.1 h4 hA.2.2.2.1 hA.2.2.2.2.2.1 hP 0 rfl h1 k hk (hA.2.2.2.2.1 _ hlk) (fun x hx => by rw [(h7 k hk).1] at hx; exact hx) (pr_obj_get (by rw [← h3]; exact hk)) hd (kk H locs lsS hR hl hS)
theorem pr_getI (hA : pr_Am g X M d mc ms) {index ci k a n : Nat} (hF : pr_F M.1.cls index ci k) (ht : pr_ft ci k = 0) (ha : T.2.1 a = (ci, n)) (hd : decode M.2.1 pc = .ok (.getfield index, 3)) (kk : pr_G g X nL Q cs sl (pc + 3) ls (.int (I a k) :: st) T I L) : pr_G g X nL Q cs sl pc ls (.ref a :: st) T I L :=
  pr_getV hA hF ha hd (by rw [if_pos ht]; exact kk)
theorem pr_getR (hA : pr_Am g X M d mc ms) {index ci k a n b : Nat} (hF : pr_F M.1.cls index ci k) (ht : pr_ft ci k = 2) (ha : T.2.1 a = (ci, n)) (hb : T.2.2 a k = some b) (hd : decode M.2.1 pc = .ok (.getfield index, 3)) (kk : pr_G g X nL Q cs sl (pc + 3) ls (.ref b :: st) T I L) : pr_G g X nL Q cs sl pc ls (.ref a :: st) T I L :=
  pr_getV hA hF ha hd (by rw [if_neg (by rw [ht]; decide), hb]; exact kk)
theorem pr_putI (hA : pr_Am g X M d mc ms) {index ci k a n : Nat} {v : Int32} (hF : pr_F M.1.cls index ci k) (ht : pr_ft ci k = 0) (ha : T.2.1 a = (ci, n)) (hd : decode M.2.1 pc = .ok (.putfield index, 3)) (kk : pr_G g X nL Q cs sl (pc + 3) ls st T (pr_up I a k v) L) : pr_G g X nL Q cs sl pc ls (.int v :: .ref a :: st) T I L := by
  obtain ⟨p, l, e, R, s, m, args, below, meth, c⟩ := X
  intro H locs lsS hR hl hS0
  obtain ⟨C, Tc, N, ty0, ⟨h1, h2, h3, h4, h5, h6, h7⟩, hk, hlk⟩ := hF
  have he := pr_ent_o (g := g) (I := I) (L := L) h2 ha
  obtain ⟨hza, hat⟩ := hR.2.2 a _ he
  have hap := va_apart (own := M.1.cls) hA.2.2.2.2.1 h4 ty0 h5 h6 hA.2.2.2.2.2.1 h1
  obtain ⟨r, hr1, cell, q1, q2, q3, q4⟩ := hat
  have hr : r = (C, Tc, N) := Option.some.inj (hr1.symm.trans h1)
  subst hr
  obtain ⟨hS, hfc, kC, hkC, hkind⟩ := hA.2.2.2.2.2.1.1 ci _ h1
  obtain ⟨cf, kf, fi, f, hi, hsl⟩ := hS k hk
  obtain ⟨hd1, hd2⟩ := h7 k hk
  have hty : ty0 k = .int ∧ (Tc k).2.2.2 = false := by
    rcases hd2 with ⟨-, h8, h9⟩ | ⟨h8, -, -⟩
    · exact ⟨h8, h9⟩
    · rw [ht] at h8; cases h8
  have hlay := hA.2.2.2.2.1 _ (h4 _ (u_in_lay hk))
  unfold u_lay at hlay
  rw [if_neg (by rw [hty.2]; decide)] at hlay
  have hst := (u_facts hfc hkC (u_lays hA.2.2.2.2.1 h4 hk) hi).1
  have hd9 : parseFieldDescriptor (Tc k).2.2.1 = some .int := by rw [h5 k hk, hty.1]
  have h10 := u_store hfc hkC hkind hlay hi hd9 (v := .int v) rfl rfl
  refine W.putK hA.1 hA.2.1 (f := f) ⟨hA.2.2.2.1, hA.2.2.2.2.1 _ hlk, ⟨_, _, _, by rw [← hd1]; exact hi⟩, hst⟩ (by rw [q2]; exact h10) q1 q3 (by rw [hsl]; exact k2_hasslot (q4 k hk)) rfl rfl hd fun H' e1 e2 e3 => ?_
  rw [hsl] at e1 ⊢
  refine kk H' _ lsS (hR.upd a hza e2 e3 rfl (fun b hb => pr_ent_congr rfl (pr_up_ne hb) rfl rfl) fun e9 he9 => ?_) hl (hS0.put e2 e3 hza)
  rw [pr_ent_o h2 ha, ← pr_obj_set ht] at he9
  cases he9
  exact ⟨_, h1, t_OB.to (V := updV (vp_V (pr_obj T I a ci)) k (.int v)) ⟨_, e1, q2, q3, t_set q4 hap hk (.int v)⟩ (fun j _ => vp_updV_set (by rw [pr_obj_len, ← h3]; exact hk) (.int v) j)⟩
theorem pr_putR (hA : pr_Am g X M d mc ms) {index ci k a n b : Nat} (hF : pr_F M.1.cls index ci k) (ht : pr_ft ci k = 2) (hinit : X.2.2.2.2.2.2.2.2.1.name = "<init>") (hown2 : ∀ q, vwCl[ci]? = some q → q.1 = M.1.cls) (ha : T.2.1 a = (ci, n)) (hd : decode M.2.1 pc = .ok (.putfield index, 3)) (kk : pr_G g X nL Q cs sl (pc + 3) ls st (pr_upr T a k (some b)) I L) : pr_G g X nL Q cs sl pc ls (.ref b :: .ref a :: st) T I L := by
  obtain ⟨p, l, e, R, s, m, args, below, meth, c⟩ := X
  intro H locs lsS hR hl hS0
  obtain ⟨C, Tc, N, ty0, ⟨h1, h2, h3, h4, h5, h6, h7⟩, hk, hlk⟩ := hF
  have he := pr_ent_o (g := g) (I := I) (L := L) h2 ha
  obtain ⟨hza, hat⟩ := hR.2.2 a _ he
  have hap := va_apart (own := M.1.cls) hA.2.2.2.2.1 h4 ty0 h5 h6 hA.2.2.2.2.2.1 h1
  obtain ⟨r, hr1, cell, q1, q2, q3, q4⟩ := hat
  have hr : r = (C, Tc, N) := Option.some.inj (hr1.symm.trans h1)
  subst hr
  obtain ⟨hS, hfc, kC, hkC, hkind⟩ := hA.2.2.2.2.2.1.1 ci _ h1
  obtain ⟨cf, kf, fi, f, hi, hsl⟩ := hS k hk
  obtain ⟨hd1, hd2⟩ := h7 k hk
  have hty : pr_isr (ty0 k) = true ∧ (Tc k).2.2.2 = true := by
    rcases hd2 with ⟨h8, -, -⟩ | ⟨-, h8, h9⟩
    · rw [ht] at h8; cases h8
    · exact ⟨h8, h9⟩
  have hlay := hA.2.2.2.2.1 _ (h4 _ (u_in_lay hk))
  unfold u_lay at hlay
  rw [if_pos hty.2] at hlay
  have hst := (u_facts hfc hkC (u_lays hA.2.2.2.2.1 h4 hk) hi).1
  have hcf : m.cls = cf := by
    obtain ⟨_, _, c', _, _, _, -, -, hf', -, -, -, hown3, -⟩ := Cond.laysFinal_spec hlay
    have e1 : c' = cf := by have := hi.symm.trans hf'; simp at this; exact this.1.symm
    have hC9 : C = M.1.cls := hown2 _ h1
    have hown4 : s.vm.findClass M.1.cls = some c' := by rw [← hC9, ← hd1]; exact hown3
    rw [← e1]; exact Option.some.inj (hA.2.2.2.1.symm.trans hown4)
  have hn : narrow (ty0 k) (.ref b) = .ref b := by
    have := hty.1
    cases hz : ty0 k <;> rw [hz] at this <;> first | rfl | (simp [pr_isr] at this)
  have hf : fits (ty0 k) (.ref b) = true := by
    have := hty.1
    cases hz : ty0 k <;> rw [hz] at this <;> first | rfl | (simp [pr_isr] at this)
  have h10 := u_fits hfc hkC hkind (Or.inr hlay) hi (h5 k hk) (v := .ref b) hn hf
  refine W.putFinK hA.1 hA.2.1 hA.2.2.2.1 (hA.2.2.2.2.1 _ hlk) (by rw [← hd1]; exact hi) hst hcf hinit (by rw [q2]; exact h10) q1 q3 (by rw [hsl]; exact k2_hasslot (q4 k hk)) rfl rfl hd fun H' e1 e2 e3 => ?_
  rw [hsl] at e1 ⊢
  refine kk H' _ lsS (hR.upd a hza e2 e3 rfl (fun b9 hb => pr_ent_congr rfl rfl rfl (by funext j; simp [pr_upr, hb])) fun e9 he9 => ?_) hl (hS0.put e2 e3 hza)
  rw [pr_ent_o (T := pr_upr T a k (some b)) h2 ha, ← pr_obj_setr ht] at he9
  cases he9
  exact ⟨_, h1, t_OB.to (V := updV (vp_V (pr_obj T I a ci)) k (.ref b)) ⟨_, e1, q2, q3, t_set q4 hap hk (.ref b)⟩ (fun j _ => vp_updV_set (v := .ref b) (by rw [pr_obj_len, ← h3]; exact hk) j)⟩
theorem pr_iald (hA : pr_Am g X M d mc ms) {a n : Nat} {j : Int32} (ha : T.2.1 a = (20, n)) (hin : vp_in j n) (hd : decode M.2.1 pc = .ok (.iaload, 1)) (kk : pr_G g X nL Q cs sl (pc + 1) ls (.int (I a j.toNatClampNeg) :: st) T I L) : pr_G g X nL Q cs sl pc ls (.int j :: .ref a :: st) T I L := by
  obtain ⟨p, l, e, R, s, m, args, below, meth, c⟩ := X
  intro H locs lsS hR hl hS
  have hat := (hR.2.2 a _ (pr_ent_i (g := g) (I := I) (L := L) (Or.inl rfl) ha)).2
  have hP : va_P (pr_D g) vwCl [(a, .inl (pr_ca g 20, n, .inl (I a)))] H := fun j q hq => by rw [pr_one hq]; exact hat
  exact va_iald hA.1 hA.2.1 hA.2.2.2.2.2.1 hP 0 0 rfl rfl hin hd (kk H locs lsS hR hl hS)
theorem pr_bald (hA : pr_Am g X M d mc ms) {a n : Nat} {j : Int32} (ha : T.2.1 a = (22, n)) (hin : vp_in j n) (hd : decode M.2.1 pc = .ok (.baload, 1)) (kk : pr_G g X nL Q cs sl (pc + 1) ls (.int (I a j.toNatClampNeg) :: st) T I L) : pr_G g X nL Q cs sl pc ls (.int j :: .ref a :: st) T I L := by
  obtain ⟨p, l, e, R, s, m, args, below, meth, c⟩ := X
  intro H locs lsS hR hl hS
  have hat := (hR.2.2 a _ (pr_ent_i (g := g) (I := I) (L := L) (Or.inr (Or.inl rfl)) ha)).2
  have hP : va_P (pr_D g) vwCl [(a, .inl (pr_ca g 22, n, .inl (I a)))] H := fun j q hq => by rw [pr_one hq]; exact hat
  exact va_bald hA.1 hA.2.1 hA.2.2.2.2.2.1 hP 0 2 rfl rfl hin hd (kk H locs lsS hR hl hS)
theorem pr_lald (hA : pr_Am g X M d mc ms) {a n : Nat} {j : Int32} (ha : T.2.1 a = (21, n)) (hin : vp_in j n) (hd : decode M.2.1 pc = .ok (.laload, 1)) (kk : pr_G g X nL Q cs sl (pc + 1) ls (.long (L a j.toNatClampNeg) :: st) T I L) : pr_G g X nL Q cs sl pc ls (.int j :: .ref a :: st) T I L := by
  obtain ⟨p, l, e, R, s, m, args, below, meth, c⟩ := X
  intro H locs lsS hR hl hS
  have hat := (hR.2.2 a _ (pr_ent_l (g := g) (I := I) (L := L) ha)).2
  have hP : va_P (pr_D g) vwCl [(a, .inl (pr_ca g 21, n, .inr (.inl (L a))))] H := fun j q hq => by rw [pr_one hq]; exact hat
  exact va_lald hA.1 hA.2.1 hA.2.2.2.2.2.1 hP 0 1 rfl rfl hin hd (kk H locs lsS hR hl hS)
theorem pr_aald (hA : pr_Am g X M d mc ms) {a n t : Nat} {j : Int32} (ht : t = 24 ∨ t = 25) (ha : T.2.1 a = (t, n)) (hin : vp_in j n) (hd : decode M.2.1 pc = .ok (.aaload, 1)) (kk : pr_G g X nL Q cs sl (pc + 1) ls (va_rf (T.2.2 a j.toNatClampNeg) :: st) T I L) : pr_G g X nL Q cs sl pc ls (.int j :: .ref a :: st) T I L := by
  obtain ⟨p, l, e, R, s, m, args, below, meth, c⟩ := X
  intro H locs lsS hR hl hS
  have hat : H[a]? = some (vp_cell (pr_ca g t) (n, .inr (.inr (.inr (.inr (T.2.2 a)))))) := (hR.2.2 a _ (pr_ent_r (g := g) (I := I) (L := L) ht ha)).2
  have hlt : j.toNatClampNeg < n := Nat.not_le.mp fun q => hin (Or.inr q)
  obtain ⟨ty, t0, ht0⟩ : ∃ (ty : FieldType) (t0 : Nat), (pr_tys g)[t0]? = some (pr_ca g t, ty) ∧ pr_isr ty = true := by
    rcases ht with rfl | rfl
    · exact ⟨.array .int, 4, rfl, rfl⟩
    · exact ⟨.object RX6, 5, rfl, rfl⟩
  have hof := (hA.2.2.2.2.2.1.2 t0 _ ht0.1).1 n (fun j => va_rf (T.2.2 a j))
  refine W.aald (v := va_rf (T.2.2 a j.toNatClampNeg)) (ty := ty) hA.1 hA.2.1 hat hof ?_ (fun q => by cases q) (by show ¬ (j < 0 ∨ (arrV _ _ _).slots.size ≤ _); rw [arrV_size]; exact hin) (by show (arrV _ _ _).slots[_]? = _; rw [arrV_read _ _ hlt]) rfl rfl hd (kk H locs lsS hR hl hS)
  have := ht0.2
  cases ty <;> first | rfl | (simp [pr_isr] at this)
theorem pr_iast (hA : pr_Am g X M d mc ms) {a n : Nat} {j v : Int32} (ha : T.2.1 a = (20, n)) (hin : vp_in j n) (hd : decode M.2.1 pc = .ok (.iastore, 1)) (kk : pr_G g X nL Q cs sl (pc + 1) ls st T (pr_up I a j.toNatClampNeg v) L) : pr_G g X nL Q cs sl pc ls (.int v :: .int j :: .ref a :: st) T I L := by
  obtain ⟨p, l, e, R, s, m, args, below, meth, c⟩ := X
  intro H locs lsS hR hl hS
  obtain ⟨hza, hat⟩ := hR.2.2 a _ (pr_ent_i (g := g) (I := I) (L := L) (Or.inl rfl) ha)
  refine W.iast hA.1 hA.2.1 hat ((hA.2.2.2.2.2.1.2 0 _ rfl).1 n (fun j => .int (I a j))) (fun q => by cases q) (by show ¬ (j < 0 ∨ (arrV _ _ _).slots.size ≤ _); rw [arrV_size]; exact hin) rfl rfl hd fun H1 e z oq => ?_
  refine kk H1 _ lsS (hR.upd a hza z oq rfl (fun b hb => pr_ent_congr rfl (pr_up_ne hb) rfl rfl) fun e9 he9 => ?_) hl (hS.put z oq hza)
  rw [pr_ent_i (Or.inl rfl) ha, pr_up_eq] at he9
  cases he9
  show H1[a]? = some (vp_cell _ _)
  rw [e, vp_cell_i, vp_cell_i, arrV_store]
  congr 2
  funext q
  by_cases hq : q = j.toNatClampNeg
  · subst hq; simp [updV, upd]
  · simp [updV, upd, hq]
theorem pr_bast (hA : pr_Am g X M d mc ms) {a n : Nat} {j v : Int32} (ha : T.2.1 a = (22, n)) (hin : vp_in j n) (hd : decode M.2.1 pc = .ok (.bastore, 1)) (kk : pr_G g X nL Q cs sl (pc + 1) ls st T (pr_up I a j.toNatClampNeg (vp_nar .byte v)) L) : pr_G g X nL Q cs sl pc ls (.int v :: .int j :: .ref a :: st) T I L := by
  obtain ⟨p, l, e, R, s, m, args, below, meth, c⟩ := X
  intro H locs lsS hR hl hS
  obtain ⟨hza, hat⟩ := hR.2.2 a _ (pr_ent_i (g := g) (I := I) (L := L) (Or.inr (Or.inl rfl)) ha)
  refine W.bast hA.1 hA.2.1 hat ((hA.2.2.2.2.2.1.2 2 _ rfl).1 n (fun j => .int (I a j))) (fun q => by cases q) (by show ¬ (j < 0 ∨ (arrV _ _ _).slots.size ≤ _); rw [arrV_size]; exact hin) rfl rfl hd fun H1 e z oq => ?_
  refine kk H1 _ lsS (hR.upd a hza z oq rfl (fun b hb => pr_ent_congr rfl (pr_up_ne hb) rfl rfl) fun e9 he9 => ?_) hl (hS.put z oq hza)
  rw [pr_ent_i (Or.inr (Or.inl rfl)) ha, pr_up_eq] at he9
  cases he9
  show H1[a]? = some (vp_cell _ _)
  rw [e, vp_cell_i, vp_cell_i, arrV_store]
  congr 2
  funext q
  by_cases hq : q = j.toNatClampNeg
  · subst hq
    simp [updV, upd, vp_nar]
    try rfl
  · simp [updV, upd, hq]
theorem pr_last (hA : pr_Am g X M d mc ms) {a n : Nat} {j : Int32} {v : Int64} (ha : T.2.1 a = (21, n)) (hin : vp_in j n) (hd : decode M.2.1 pc = .ok (.lastore, 1)) (kk : pr_G g X nL Q cs sl (pc + 1) ls st T I (pr_upl L a j.toNatClampNeg v)) : pr_G g X nL Q cs sl pc ls (.long v :: .int j :: .ref a :: st) T I L := by
  obtain ⟨p, l, e, R, s, m, args, below, meth, c⟩ := X
  intro H locs lsS hR hl hS
  obtain ⟨hza, hat⟩ := hR.2.2 a _ (pr_ent_l (g := g) (I := I) (L := L) ha)
  refine W.last hA.1 hA.2.1 hat ((hA.2.2.2.2.2.1.2 1 _ rfl).1 n (fun j => .long (L a j))) (fun q => by cases q) (by show ¬ (j < 0 ∨ (arrV _ _ _).slots.size ≤ _); rw [arrV_size]; exact hin) rfl rfl hd fun H1 e z oq => ?_
  refine kk H1 _ lsS (hR.upd a hza z oq rfl (fun b hb => pr_ent_congr rfl rfl (pr_upl_ne hb) rfl) fun e9 he9 => ?_) hl (hS.put z oq hza)
  rw [pr_ent_l ha, pr_upl_eq] at he9
  cases he9
  show H1[a]? = some (vp_cell _ _)
  rw [e, vp_cell_l, vp_cell_l, arrV_store]
  congr 2
  funext q
  by_cases hq : q = j.toNatClampNeg
  · subst hq; simp [updV, vp_updL]
  · simp [updV, vp_updL, hq]
/-- a static array of the class, and what it holds -/
theorem pr_getsN (hA : pr_Am g X M d mc ms) {index : Nat} (i : Nat) (hi : i < 3) (hl1 : (Cond.fieldLinkNest M.1.cls index RX7 (pr_sn i) "[I" RX7) ∈ pr_nest) (hd : decode M.2.1 pc = .ok (.getstatic index, 3)) (kk : pr_G g X nL Q cs sl (pc + 3) ls (.ref (pr_sa g i) :: st) T I L) : pr_G g X nL Q cs sl pc ls st T I L := by
  obtain ⟨p, l, e, R, s, m, args, below, meth, c⟩ := X
  intro H locs lsS hR hl hS
  have hSF := hA.2.2.2.2.2.2.1
  exact va_getsN hA.1 hA.2.1 (hSF.1 i hi).1 hS hA.2.2.2.1 (va_Nw.use rfl (hSF.2.2.2.2.2.2.2.2.1 _ hl1)) (fun _ h => h) hd (kk H locs lsS hR hl hS)
theorem pr_gets (hA : pr_Am g X M d mc ms) {index : Nat} (i : Nat) (hi : i < 3) (hl1 : (Cond.fieldLink M.1.cls index RX7 (pr_sn i) "[I") ∈ pr_gw) (hd : decode M.2.1 pc = .ok (.getstatic index, 3)) (kk : pr_G g X nL Q cs sl (pc + 3) ls (.ref (pr_sa g i) :: st) T I L) : pr_G g X nL Q cs sl pc ls st T I L := by
  obtain ⟨p, l, e, R, s, m, args, below, meth, c⟩ := X
  intro H locs lsS hR hl hS
  have hSF := hA.2.2.2.2.2.2.1
  exact va_gets hA.1 hA.2.1 (hSF.1 i hi).1 hS hA.2.2.2.1 (hA.2.2.2.2.1 _ hl1) (fun _ h => h) hd (kk H locs lsS hR hl hS)
theorem pr_sald (hA : pr_Am g X M d mc ms) {i : Nat} (hi : i < 3) {j : Int32} (hin : vp_in j 5) (hd : decode M.2.1 pc = .ok (.iaload, 1)) (kk : pr_G g X nL Q cs sl (pc + 1) ls (.int (pr_sv i j.toNatClampNeg) :: st) T I L) : pr_G g X nL Q cs sl pc ls (.int j :: .ref (pr_sa g i) :: st) T I L := by
  obtain ⟨p, l, e, R, s, m, args, below, meth, c⟩ := X
  intro H locs lsS hR hl hS
  have hSF := hA.2.2.2.2.2.2.1
  exact va_ti hA.1 hA.2.1 (hSF.1 i hi).2 hS hin rfl hd (kk H locs lsS hR hl hS)
end PRH
