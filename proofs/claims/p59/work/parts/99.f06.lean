/-! A WORLD IS MADE: its constructor -/
def tX6_init (T : pr_T) (w : Nat) : pr_T := pr_upr (pr_new (alT (sb (sb (sb (sb T 2 0 w tX2_init) 5 1 w tX5_init) 4 2 w tX4_init) 3 3 w tX3_init) 20 w 4 5 1) 21 12) w 5 (some (T.1 + 119))
theorem ps_al {T : pr_T} {w t k n i : Nat} (hw : w < T.1) : PS w k T (alT T t w k n i) :=
  ⟨alT_kp.1, alT_kp.2.1, alT_kp.2.2, fun j hj => (if_neg (by omega)).trans (if_neg (by omega))⟩
theorem ps_nw {T : pr_T} {w k t n : Nat} {v : Option Nat} (hw : w < T.1) : PS w k T (pr_upr (pr_new T t n) w k v) :=
  ⟨Nat.le_succ _, fun b hb => if_neg (by omega), fun b hb hbw => funext fun j => (if_neg (fun z => hbw z.1)).trans (if_neg (by omega)), fun j hj => (if_neg (by omega)).trans (if_neg (by omega))⟩
section WM
variable {T : pr_T} {w : Nat}
theorem w_ps (hw : w < T.1) : PS w 0 T (sb T 2 0 w tX2_init) ∧ PS w 1 (sb T 2 0 w tX2_init) (sb (sb T 2 0 w tX2_init) 5 1 w tX5_init) ∧ PS w 2 (sb (sb T 2 0 w tX2_init) 5 1 w tX5_init) (sb (sb (sb T 2 0 w tX2_init) 5 1 w tX5_init) 4 2 w tX4_init) ∧ PS w 3 (sb (sb (sb T 2 0 w tX2_init) 5 1 w tX5_init) 4 2 w tX4_init) (sb (sb (sb (sb T 2 0 w tX2_init) 5 1 w tX5_init) 4 2 w tX4_init) 3 3 w tX3_init) := by
  have a := (kp_X2.sb (T := T) (ci := 2) (k := 0) hw).1
  have wa : w < (sb T 2 0 w tX2_init).1 := Nat.lt_of_lt_of_le hw a.1
  have b := (kp_X5.sb (ci := 5) (k := 1) wa).1
  have wb := Nat.lt_of_lt_of_le wa b.1
  have c := (kp_X4.sb (ci := 4) (k := 2) wb).1
  have wc := Nat.lt_of_lt_of_le wb c.1
  exact ⟨a, b, c, (kp_X3.sb (ci := 3) (k := 3) wc).1⟩
end WM
set_option maxRecDepth 100000 in
theorem c_X6_init {g : pr_C} {l : Launch} (hl : l.stackTraces = false) {T : pr_T} {I : pr_I} {L : pr_L} {w : Nat} (haw : T.2.1 w = (6, 0)) (hwT : w < T.1) (hI : I w = fun _ => 0) : pr_M g l 2 120 5807 mX6_init [.ref w] T I L (pr_R none (tX6_init T w) (pr_row (zI I T.1 119) (T.1 + 118) (va_cpy (pr_sv 0) (fun _ => 0) 0 0 5)) (pr_rowl L (T.1 + 119) (fun _ => 0))) pr_no := by
  refine pr_ofG (by decide) rfl hl (Nat.le_of_ble_eq_true rfl) (fun X hA hX hXn hXt => ?_)
  have hin : X.2.2.2.2.2.2.2.2.1.name = "<init>" := hXn
  obtain ⟨p0, p1, p2, p3⟩ := w_ps (T := T) (w := w) hwT
  have w0 := Nat.lt_of_lt_of_le hwT p0.1
  have w1 := Nat.lt_of_lt_of_le w0 p1.1
  have w2 := Nat.lt_of_lt_of_le w1 p2.1
  have w3 := Nat.lt_of_lt_of_le w2 p3.1
  have k0 := (p0.2.1 w hwT).trans haw
  have k1 := (p1.2.1 w w0).trans k0
  have k2 := (p2.2.1 w w1).trans k1
  have k3 := (p3.2.1 w w2).trans k2
  have own : ∀ q, vwCl[6]? = some q → q.1 = mX6_init.1.cls := fun q hq => by cases hq; rfl
  show pr_G g X mX6_init.2.2.1 _ 0 0 0 [.ref w] [] T I L
  refine pr_z0 ?_
  refine pr_aload_n hA dX6_init_0 rfl ?_
  refine pr_objInit hA rfl kM_X6_3 kI_Object__init____V kO_Object__init____V (by decide) (by decide) dX6_init_1 ?_
  refine pr_aload_n hA dX6_init_4 rfl ?_
  refine pr_sub (k := 0) (q := 7) (c := 0) (b0 := T.1) hA rfl kp_X2 hwT haw n_X6_9 (by decide) (by decide) dX6_init_5 dX6_init_8 dX6_init_9 dX6_init_12 rfl (fun J hJ => c_X2_init (pr_hl hA) (if_pos rfl) (Nat.lt_succ_self _) hJ) (by decide +kernel) kZ_X2 kO_X2_init (by decide +kernel) (by decide) rfl kI_X2_init rfl rfl (by decide) (by decide) (by decide) (Nat.le_of_ble_eq_true rfl) f_X6_12 rfl hin own ?_
  refine pr_aload_n hA dX6_init_15 rfl ?_
  refine pr_sub (k := 1) (q := 8) (c := 8) (b0 := T.1) hA rfl kp_X5 w0 k0 n_X6_18 (by decide) (by decide) dX6_init_16 dX6_init_19 dX6_init_20 dX6_init_23 rfl (fun J hJ => c_X5_init (pr_hl hA) (if_pos rfl) (Nat.lt_succ_self _) hJ) (by decide +kernel) kZ_X5 kO_X5_init (by decide +kernel) (by decide) rfl kI_X5_init rfl rfl (by decide) (by decide) (by decide) (Nat.le_of_ble_eq_true rfl) f_X6_21 rfl hin own ?_
  refine pr_aload_n hA dX6_init_26 rfl ?_
  refine pr_sub (k := 2) (q := 97) (c := 17) (b0 := T.1) hA rfl kp_X4 w1 k1 n_X6_25 (by decide) (by decide) dX6_init_27 dX6_init_30 dX6_init_31 dX6_init_34 rfl (fun J hJ => c_X4_init (pr_hl hA) (if_pos rfl) (Nat.lt_succ_self _) hJ) (by decide +kernel) kZ_X4 kO_X4_init (by decide +kernel) (by decide) rfl kI_X4_init rfl rfl (by decide) (by decide) (by decide) (Nat.le_of_ble_eq_true rfl) f_X6_28 rfl hin own ?_
  refine pr_aload_n hA dX6_init_37 rfl ?_
  refine pr_sub (k := 3) (q := 2) (c := 115) (b0 := T.1) hA rfl kp_X3 w2 k2 n_X6_32 (by decide) (by decide) dX6_init_38 dX6_init_41 dX6_init_42 dX6_init_45 rfl (fun J hJ => c_X3_init (pr_hl hA) (if_pos rfl) (Nat.lt_succ_self _) hJ) (by decide +kernel) kZ_X3 kO_X3_init (by decide +kernel) (by decide) rfl kI_X3_init rfl rfl (by decide) (by decide) (by decide) (Nat.le_of_ble_eq_true rfl) f_X6_35 rfl hin own ?_
  refine pr_aload_n hA dX6_init_48 rfl ?_
  refine pr_iconst hA (5) dX6_init_49 (by decide) ?_
  refine pr_al0 20 w 4 5 ?_
  refine pr_fA (at0 := .int) hA 20 0 4 5 0 118 (b0 := T.1) w3 k3 rfl rfl (Or.inl rfl) rfl kY_int (by decide) (by decide) (by decide) f_X6_39 rfl hin own (by decide) (by decide) dX6_init_50 dX6_init_52 ?_
  have p4 := ps_al (t := 20) (k := 4) (n := 5) (i := 1) w3
  have w4 := Nat.lt_of_lt_of_le w3 p4.1
  have k4 := (p4.2.1 w w3).trans k3
  have p5 := ps_nw (t := 21) (n := 12) (k := 5) (v := some (T.1 + 119)) w4
  have k5 := (p5.2.1 w w4).trans k4
  refine pr_aload_n hA dX6_init_55 rfl ?_
  refine pr_bipush hA (12) dX6_init_56 (by decide) ?_
  refine pr_newL hA 12 kY_long (by decide) (by decide) (by decide) (by decide) (by decide) dX6_init_58 ?_
  refine pr_putR hA f_X6_43 rfl hin own (a := w) (n := 0) ((if_neg (Nat.ne_of_lt w4)).trans k4) dX6_init_60 ?_
  refine pr_aload_n hA dX6_init_63 rfl ?_
  refine pr_iconst hA (0) dX6_init_64 (by decide) ?_
  refine pr_putE hA f_X6_47 rfl k5 (zI_self hI hwT) dX6_init_65 ?_
  refine pr_aload_n hA dX6_init_68 rfl ?_
  refine pr_iconst hA (0) dX6_init_69 (by decide) ?_
  refine pr_putE hA f_X6_51 rfl k5 (zI_self hI hwT) dX6_init_70 ?_
  refine pr_getsN hA 0 (by decide) (by decide +kernel) dX6_init_73 ?_
  refine pr_iconst hA (0) dX6_init_76 (by decide) ?_
  refine pr_aload_n hA dX6_init_77 rfl ?_
  have r4 : (pr_upr (pr_new (alT (sb (sb (sb (sb T 2 0 w tX2_init) 5 1 w tX5_init) 4 2 w tX4_init) 3 3 w tX3_init) 20 w 4 5 1) 21 12) w 5 (some (T.1 + 119))).2.2 w 4 = some (T.1 + 118) := by
    refine (p5.2.2.2 4 (by decide)).trans ((if_pos ⟨rfl, by decide, by decide⟩).trans ?_)
    rfl
  refine pr_getR hA f_X6_39 rfl k5 r4 dX6_init_78 ?_
  refine pr_iconst hA (0) dX6_init_81 (by decide) ?_
  refine pr_iconst hA (5) dX6_init_82 (by decide) ?_
  have e5 : (pr_upr (pr_new (alT (sb (sb (sb (sb T 2 0 w tX2_init) 5 1 w tX5_init) 4 2 w tX4_init) 3 3 w tX3_init) 20 w 4 5 1) 21 12) w 5 (some (T.1 + 119))).2.1 (T.1 + 118) = (20, 5) := (p5.2.1 (T.1 + 118) (by show T.1 + 118 < T.1 + 119; omega)).trans (if_pos ⟨by show T.1 + 118 ≤ T.1 + 118; omega, by show T.1 + 118 < T.1 + 119; omega⟩)
  refine pr_copyS hA rfl (i0 := 0) (by decide) ⟨kM_X6_57, kN_System_arraycopy__Ljava_lang_Object_ILjava_lang_Object_II_V, kT_System_arraycopy__Ljava_lang_Object_ILjava_lang_Object_II_V, kZ_J10⟩ (by decide) e5 (by decide) (by decide) (by decide) (by decide) (by decide) (by decide) dX6_init_83 ?_
  have z : zI I T.1 (118 + 1) (T.1 + 118) = fun _ => 0 := zI_in (by omega) (by omega)
  rw [z]
  exact pr_return hA rfl (by decide) (by decide) dX6_init_86 ⟨rfl, rfl, rfl, rfl⟩
