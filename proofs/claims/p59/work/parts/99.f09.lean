/-! THE CLASS IS MADE -/
theorem kp_sb {tf : pr_T → Nat → pr_T} (h : KP tf) {T : pr_T} {ci k w : Nat} : T.1 ≤ (sb T ci k w tf).1 ∧ (∀ b, b < T.1 → (sb T ci k w tf).2.1 b = T.2.1 b) ∧ ∀ b, b < T.1 → b ≠ w → (sb T ci k w tf).2.2 b = T.2.2 b := by
  obtain ⟨h1, h2, h3⟩ := h (pr_new T ci 0) T.1
  refine ⟨Nat.le_trans (Nat.le_succ _) h1, fun b hb => ?_, fun b hb hbw => funext fun j => ?_⟩
  · exact (h2 b (Nat.lt_succ_of_lt hb)).trans (if_neg (by omega))
  · refine (if_neg (fun z => hbw z.1)).trans ((congrFun (h3 b (Nat.lt_succ_of_lt hb) (by omega)) j).trans ?_)
    exact if_neg (by omega)
theorem nw_kp {T : pr_T} {t n a k : Nat} {v : Option Nat} : T.1 ≤ (pr_upr (pr_new T t n) a k v).1 ∧ (∀ b, b < T.1 → (pr_upr (pr_new T t n) a k v).2.1 b = T.2.1 b) ∧ ∀ b, b < T.1 → b ≠ a → (pr_upr (pr_new T t n) a k v).2.2 b = T.2.2 b :=
  ⟨Nat.le_succ _, fun b hb => if_neg (by omega), fun b hb ha => funext fun j => (if_neg (fun z => ha z.1)).trans (if_neg (by omega))⟩
theorem kp_X6 : KP tX6_init := fun _ _ => kp_two (kp_two (kp_two (kp_two (kp_two (kp_sb kp_X2) (kp_sb kp_X5)) (kp_sb kp_X4)) (kp_sb kp_X3)) alT_kp) nw_kp
/-- the ints and longs of a world just made -/
def nwI (I : pr_I) (t : Nat) : pr_I := pr_row (zI (pr_row I t (fun _ => 0)) (t + 1) 119) (t + 1 + 118) (va_cpy (pr_sv 0) (fun _ => 0) 0 0 5)
def nwL (L : pr_L) (t : Nat) : pr_L := pr_rowl L (t + 1 + 119) (fun _ => 0)
theorem nwI_o {I : pr_I} {t o : Nat} (ho : o < 119) : nwI I t (t + o) = fun _ => 0 := by
  unfold nwI
  rw [pr_row_ne (by omega)]
  by_cases c : o = 0
  · rw [zI_out (by omega), show t + o = t by omega, pr_row_eq]
  · rw [zI_in (by omega) (by omega)]
theorem nwI_s {I : pr_I} {t : Nat} : nwI I t (t + 119) = va_cpy (pr_sv 0) (fun _ => 0) 0 0 5 := by
  unfold nwI
  rw [show t + 119 = t + 1 + 118 by omega]
  exact pr_row_eq
theorem nwI_out {I : pr_I} {t b : Nat} (h : b < t ∨ t + 120 ≤ b) : nwI I t b = I b := by
  unfold nwI
  rw [pr_row_ne (by omega), zI_out (by omega), pr_row_ne (by omega)]
def tX7_init (T : pr_T) (x : Nat) : pr_T := sb (sb (pr_upr (pr_new (sb (sb T 6 0 x tX6_init) 6 1 x tX6_init) 25 2) x 2 (some (sb (sb T 6 0 x tX6_init) 6 1 x tX6_init).1)) 0 3 x tX0_init) 1 4 x tX1_init
def iX7 (I : pr_I) (t : Nat) : pr_I := zI (zI (pr_row (nwI (nwI I t) (t + 121)) (t + 242) (fun _ => 0)) (t + 243) 5) (t + 248) 2
section NWW
variable {g : pr_C} {X : pr_X} {M : pr_MD} {d mc ms : Nat} {nL : Nat} {Q : State → Prop} {cs sl pc : Nat} {ls st : List Value} {T : pr_T} {I : pr_I} {L : pr_L}
theorem pr_subW (hA : pr_Am g X M d mc ms) (hnL : nL = M.2.2.1) {ix iy iz cj x k : Nat} (hxT : x < T.1) (hax : T.2.1 x = (cj, 0)) (hN : pr_Nw M.1.cls ix 6) (hcs1 : cs + 1 ≤ mc) (hsl1 : sl + 8 ≤ ms) (hd1 : decode M.2.1 pc = .ok (.new ix, 3)) (hd2 : decode M.2.1 (pc + 3) = .ok (.dup, 1)) (hd3 : decode M.2.1 (pc + 3 + 1) = .ok (.invokespecial iy, 3)) (hd4 : decode M.2.1 (pc + 3 + 1 + 3) = .ok (.putfield iz, 3))
    (hcB : pr_cB M.1.cls iy mX6_init 0) (hdd : 2 + 1 ≤ d) (hcs2 : cs + 1 + 120 ≤ mc) (hsl2 : sl + 8 + 5807 ≤ ms) (hst : ((.ref T.1 :: .ref x :: st).map fun v => v.category).sum ≤ 8) (hF : pr_F M.1.cls iz cj k) (hft : pr_ft cj k = 2) (hinit : X.2.2.2.2.2.2.2.2.1.name = "<init>") (hown2 : ∀ q, vwCl[cj]? = some q → q.1 = M.1.cls)
    (kk : pr_G g X nL Q (cs + 1 + 120) (sl + 8 + 5807) (pc + 3 + 1 + 3 + 3) ls st (sb T 6 k x tX6_init) (nwI I T.1) (nwL L T.1)) : pr_G g X nL Q cs sl pc ls (.ref x :: st) T I L := by
  refine pr_newO hA hN hcs1 hsl1 hd1 ?_
  refine pr_dup hA hd2 rfl ?_
  refine pr_callI hA hnL (c_X6_init (pr_hl hA) (T := pr_new T 6 0) (w := T.1) (if_pos rfl) (Nat.lt_succ_self _) pr_row_eq) hcB kI_X6_init rfl rfl rfl hdd hcs2 hsl2 rfl hst hd3 (fun v T' I' L' hh => ?_)
  obtain ⟨rfl, rfl, rfl, rfl⟩ := hh
  refine pr_putR hA hF hft hinit hown2 (a := x) (n := 0) ?_ hd4 kk
  obtain ⟨h1, h2, h3⟩ := kp_X6 (pr_new T 6 0) T.1
  exact (h2 x (Nat.lt_succ_of_lt hxT)).trans ((if_neg (by omega)).trans hax)
end NWW
set_option maxRecDepth 100000 in
theorem c_X7_init {g : pr_C} {l : Launch} (hl : l.stackTraces = false) {T : pr_T} {I : pr_I} {L : pr_L} {x : Nat} (hax : T.2.1 x = (7, 0)) (hxT : x < T.1) : pr_M g l 3 250 12415 mX7_init [.ref x] T I L (pr_R none (tX7_init T x) (iX7 I T.1) (nwL (nwL L T.1) (T.1 + 121))) pr_no := by
  refine pr_ofG (by decide) rfl hl (Nat.le_of_ble_eq_true rfl) (fun X hA hX hXn hXt => ?_)
  have hin : X.2.2.2.2.2.2.2.2.1.name = "<init>" := hXn
  have own : ∀ q, vwCl[7]? = some q → q.1 = mX7_init.1.cls := fun q hq => by cases hq; rfl
  have p0 := kp_sb kp_X6 (T := T) (ci := 6) (k := 0) (w := x)
  have x0 := Nat.lt_of_lt_of_le hxT p0.1
  have k0 := (p0.2.1 x hxT).trans hax
  have p1 := kp_sb kp_X6 (T := sb T 6 0 x tX6_init) (ci := 6) (k := 1) (w := x)
  have x1 := Nat.lt_of_lt_of_le x0 p1.1
  have k1 := (p1.2.1 x x0).trans k0
  have p2 := nw_kp (T := sb (sb T 6 0 x tX6_init) 6 1 x tX6_init) (t := 25) (n := 2) (a := x) (k := 2) (v := some (sb (sb T 6 0 x tX6_init) 6 1 x tX6_init).1)
  have x2 := Nat.lt_of_lt_of_le x1 p2.1
  have k2 := (p2.2.1 x x1).trans k1
  have p3 := kp_sb kp_X0 (T := pr_upr (pr_new (sb (sb T 6 0 x tX6_init) 6 1 x tX6_init) 25 2) x 2 (some (sb (sb T 6 0 x tX6_init) 6 1 x tX6_init).1)) (ci := 0) (k := 3) (w := x)
  have x3 := Nat.lt_of_lt_of_le x2 p3.1
  have k3 := (p3.2.1 x x2).trans k2
  show pr_G g X mX7_init.2.2.1 _ 0 0 0 [.ref x] [] T I L
  refine pr_aload_n hA dX7_init_0 rfl ?_
  refine pr_objInit hA rfl kM_X7_1 kI_Object__init____V kO_Object__init____V (by decide) (by decide) dX7_init_1 ?_
  refine pr_aload_n hA dX7_init_4 rfl ?_
  refine pr_subW (k := 0) hA rfl hxT hax n_X7_7 (by decide) (by decide) dX7_init_5 dX7_init_8 dX7_init_9 dX7_init_12 b_X7_9 (by decide) (by decide) (by decide) (Nat.le_of_ble_eq_true rfl) f_X7_10 rfl hin own ?_
  refine pr_aload_n hA dX7_init_15 rfl ?_
  refine pr_subW (k := 1) hA rfl x0 k0 n_X7_7 (by decide) (by decide) dX7_init_16 dX7_init_19 dX7_init_20 dX7_init_23 b_X7_9 (by decide) (by decide) (by decide) (Nat.le_of_ble_eq_true rfl) f_X7_16 rfl hin own ?_
  refine pr_aload_n hA dX7_init_26 rfl ?_
  refine pr_iconst hA (2) dX7_init_27 (by decide) ?_
  refine pr_newQ hA 2 kC_X7_7 (by decide) (by decide) (by decide) (by decide) (by decide) dX7_init_28 ?_
  refine pr_putR hA f_X7_19 rfl hin own (a := x) (n := 0) ((if_neg (Nat.ne_of_lt x1)).trans k1) dX7_init_31 ?_
  refine pr_aload_n hA dX7_init_34 rfl ?_
  refine pr_z0 ?_
  refine pr_sub (k := 3) (q := 4) (c := 0) hA rfl kp_X0 x2 k2 n_X7_23 (by decide) (by decide) dX7_init_35 dX7_init_38 dX7_init_39 dX7_init_42 rfl (fun J hJ => c_X0_init (pr_hl hA) (if_pos rfl) (Nat.lt_succ_self _) hJ) (by decide +kernel) kZ_X0 kO_X0_init (by decide +kernel) (by decide) rfl kI_X0_init rfl rfl (by decide) (by decide) (by decide) (Nat.le_of_ble_eq_true rfl) f_X7_26 rfl hin own ?_
  refine pr_aload_n hA dX7_init_45 rfl ?_
  refine pr_z0 ?_
  refine pr_sub (k := 4) (q := 1) (c := 0) hA rfl kp_X1 x3 k3 n_X7_30 (by decide) (by decide) dX7_init_46 dX7_init_49 dX7_init_50 dX7_init_53 rfl (fun J hJ => c_X1_init (pr_hl hA) (if_pos rfl) (Nat.lt_succ_self _) hJ) (by decide +kernel) kZ_X1 kO_X1_init (by decide +kernel) (by decide) rfl kI_X1_init rfl rfl (by decide) (by decide) (by decide) (Nat.le_of_ble_eq_true rfl) f_X7_33 rfl hin own ?_
  exact pr_return hA rfl (by decide) (by decide) dX7_init_56 ⟨rfl, rfl, rfl, rfl⟩
