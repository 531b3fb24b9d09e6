/-! CONSTRUCTORS: arrays made one by one and laid into the fields of a -/
/-- i arrays of kind t and length n, in the fields k, k + 1, .. of a -/
def alT (T : pr_T) (t a k n i : Nat) : pr_T := (T.1 + i, fun b => if T.1 ≤ b ∧ b < T.1 + i then (t, n) else T.2.1 b, fun b j => if b = a ∧ k ≤ j ∧ j < k + i then some (T.1 + (j - k)) else if T.1 ≤ b ∧ b < T.1 + i then none else T.2.2 b j)
theorem alT_0 {T : pr_T} {t a k n : Nat} : alT T t a k n 0 = T := by
  obtain ⟨x, y, z⟩ := T
  unfold alT
  refine Prod.ext rfl (Prod.ext (funext fun b => ?_) (funext fun b => funext fun j => ?_))
  · exact if_neg (by first | omega | (dsimp only; omega))
  · exact (if_neg (by first | omega | (dsimp only; omega))).trans (if_neg (by first | omega | (dsimp only; omega)))
theorem alT_s {T : pr_T} {t a k n i : Nat} (ha : a < T.1) : pr_upr (pr_new (alT T t a k n i) t n) a (k + i) (some (T.1 + i)) = alT T t a k n (i + 1) := by
  obtain ⟨x, y, z⟩ := T
  dsimp only at ha
  unfold alT pr_upr pr_new
  dsimp only
  refine Prod.ext rfl (Prod.ext (funext fun b => ?_) (funext fun b => funext fun j => ?_))
  · dsimp only
    by_cases e : b = x + i
    · rw [if_pos e, if_pos (by omega)]
    · rw [if_neg e]
      by_cases f : x ≤ b ∧ b < x + i
      · rw [if_pos f, if_pos (by omega)]
      · rw [if_neg f, if_neg (by omega)]
  · dsimp only
    by_cases e : b = a ∧ j = k + i
    · rw [if_pos e, if_pos (show b = a ∧ k ≤ j ∧ j < k + (i + 1) by omega), e.2]
      congr 1
      omega
    · rw [if_neg e]
      by_cases f : b = x + i
      · rw [if_pos f, if_neg (show ¬ (b = a ∧ k ≤ j ∧ j < k + (i + 1)) by omega), if_pos (by omega)]
      · rw [if_neg f]
        by_cases h : b = a ∧ k ≤ j ∧ j < k + i
        · rw [if_pos h, if_pos (show b = a ∧ k ≤ j ∧ j < k + (i + 1) by omega)]
        · rw [if_neg h, if_neg (show ¬ (b = a ∧ k ≤ j ∧ j < k + (i + 1)) by omega)]
          by_cases q : x ≤ b ∧ b < x + i
          · rw [if_pos q, if_pos (by omega)]
          · rw [if_neg q, if_neg (by omega)]
theorem alT_k {T : pr_T} {t a k n i b : Nat} (hb : b < T.1) : (alT T t a k n i).2.1 b = T.2.1 b := if_neg (by omega)
theorem zI_0 {I : pr_I} {t : Nat} : zI I t 0 = I := by
  funext b
  exact if_neg (by omega)
theorem zI_z {I : pr_I} {t n m : Nat} : zI (zI I t n) (t + n) m = zI I t (n + m) := by
  funext b
  unfold zI
  by_cases e : t + n ≤ b ∧ b < t + n + m
  · rw [if_pos e, if_pos (by omega)]
  · rw [if_neg e]
    by_cases f : t ≤ b ∧ b < t + n
    · rw [if_pos f, if_pos (by omega)]
    · rw [if_neg f, if_neg (by omega)]
theorem zI_s {I : pr_I} {t n : Nat} : pr_row (zI I t n) (t + n) (fun _ => 0) = zI I t (n + 1) := by
  rw [← zI_z]
  funext b
  unfold pr_row zI
  by_cases e : b = t + n
  · rw [if_pos e, if_pos (by omega)]
  · rw [if_neg e, if_neg (show ¬ (t + n ≤ b ∧ b < t + n + 1) by omega)]
theorem zI_self {I : pr_I} {a t n k : Nat} (hI : I a = fun _ => 0) (ha : a < t) : pr_up (zI I t n) a k 0 = zI I t n := up_self (by rw [zI_out (Or.inl ha), hI])
section CON
variable {g : pr_C} {X : pr_X} {M : pr_MD} {d mc ms : Nat} {nL : Nat} {Q : State → Prop} {cs sl pc : Nat} {ls st : List Value} {T : pr_T} {I : pr_I} {L : pr_L}
theorem pr_al0 (t a k n : Nat) (kk : pr_G g X nL Q cs sl pc ls st (alT T t a k n 0) I L) : pr_G g X nL Q cs sl pc ls st T I L := by rw [alT_0] at kk; exact kk
theorem pr_z0 (kk : pr_G g X nL Q cs sl pc ls st T (zI I T.1 0) L) : pr_G g X nL Q cs sl pc ls st T I L := by rw [zI_0] at kk; exact kk
theorem pr_fA (hA : pr_Am g X M d mc ms) {at0 : ArrayType} {j : Int32} {index ci a : Nat} (t t0 : Nat) (k n i c : Nat) {b0 : Nat} (hlt : a < T.1) (ha : T.2.1 a = (ci, 0)) (hc : T.1 + i = b0 + c)
    (hty : (pr_tys g)[t0]? = some (pr_ca g t, newarray.typeOf at0)) (ht : t = 20 ∨ t = 22 ∨ t = 23) (hdv : defaultValue (newarray.typeOf at0) = .int 0) (hw : Cond.arrayClass (newarray.typeOf at0) ∈ pr_gw) (hn : ¬ j < 0) (hN : j.toNatClampNeg = n) (hsm : n ≤ 60000000)
    (hF : pr_F M.1.cls index ci (k + i)) (hft : pr_ft ci (k + i) = 2) (hinit : X.2.2.2.2.2.2.2.2.1.name = "<init>") (hown2 : ∀ q, vwCl[ci]? = some q → q.1 = M.1.cls) (hcs : cs + 1 ≤ mc) (hsl : sl + n ≤ ms) (hd1 : decode M.2.1 pc = .ok (.newarray at0, 2)) (hd2 : decode M.2.1 (pc + 2) = .ok (.putfield index, 3))
    (kk : pr_G g X nL Q (cs + 1) (sl + n) (pc + 2 + 3) ls st (alT T t a k n (i + 1)) (zI I b0 (c + 1)) L) : pr_G g X nL Q cs sl pc ls (.int j :: .ref a :: st) (alT T t a k n i) (zI I b0 c) L := by
  refine pr_newA hA n t t0 hty ht hdv hw hn hN hsm hcs hsl hd1 ?_
  refine pr_putR hA hF hft hinit hown2 (a := a) (n := 0) ?_ hd2 ?_
  · show (if a = T.1 + i then (t, n) else (alT T t a k n i).2.1 a) = (ci, 0)
    rw [if_neg (by omega), alT_k hlt]; exact ha
  · show pr_G g X nL Q _ _ _ ls st (pr_upr (pr_new (alT T t a k n i) t n) a (k + i) (some (T.1 + i))) (pr_row (zI I b0 c) (T.1 + i) (fun _ => 0)) L
    rw [alT_s hlt, hc, zI_s]
    exact kk
theorem pr_fM (hA : pr_Am g X M d mc ms) {x y : Int32} {ix index ci a : Nat} (n m k c : Nat) {b0 : Nat} (hlt : a < T.1) (ha : T.2.1 a = (ci, 0)) (hc : T.1 = b0 + c) (hw : Cond.classLink M.1.cls ix "[[I" ∈ pr_gw) (hx0 : ¬ x < 0) (hy0 : ¬ y < 0) (hN : x.toNatClampNeg = n) (hKk : y.toNatClampNeg = m) (hn1 : n ≤ 100000) (hk1 : m ≤ 100000)
    (hF : pr_F M.1.cls index ci k) (hft : pr_ft ci k = 2) (hinit : X.2.2.2.2.2.2.2.2.1.name = "<init>") (hown2 : ∀ q, vwCl[ci]? = some q → q.1 = M.1.cls) (hcs : cs + (1 + n) ≤ mc) (hsl : sl + (n + n * m) ≤ ms) (hd1 : decode M.2.1 pc = .ok (.multianewarray ix 2, 4)) (hd2 : decode M.2.1 (pc + 4) = .ok (.putfield index, 3))
    (kk : pr_G g X nL Q (cs + 1 + n) (sl + n + n * m) (pc + 4 + 3) ls st (pr_upr (mm_T T n m) a k (some T.1)) (zI I b0 (c + (1 + n))) L) : pr_G g X nL Q cs sl pc ls (.int y :: .int x :: .ref a :: st) T (zI I b0 c) L := by
  refine pr_newM hA n m hw hx0 hy0 hN hKk hn1 hk1 hcs hsl hd1 ?_
  refine pr_putR hA hF hft hinit hown2 (a := a) (n := 0) ?_ hd2 ?_
  · show (if a = T.1 then _ else if T.1 + 1 ≤ a ∧ a < T.1 + 1 + n then _ else T.2.1 a) = (ci, 0)
    rw [if_neg (by omega), if_neg (by omega)]; exact ha
  · have e : zI (zI I b0 c) T.1 (1 + n) = zI I b0 (c + (1 + n)) := by rw [hc, zI_z]
    rw [e]
    exact kk
end CON
theorem mm_k {T : pr_T} {n k b a j : Nat} {v : Option Nat} (hb : b < T.1) : (pr_upr (mm_T T n k) a j v).2.1 b = T.2.1 b := (if_neg (by omega)).trans (if_neg (by omega))
def tX2_init (T : pr_T) (a : Nat) : pr_T := (alT T 20 a 0 24 7)
theorem c_X2_init {g : pr_C} {l : Launch} (hl : l.stackTraces = false) {T : pr_T} {I : pr_I} {L : pr_L} {a : Nat} (ha : T.2.1 a = (2, 0)) (hlt : a < T.1) (hI : I a = fun _ => 0) : pr_M g l 1 7 168 mX2_init [.ref a] T I L (pr_R none (tX2_init T a) (zI I T.1 7) L) pr_no := by
  refine pr_ofG (by decide) rfl hl (Nat.le_of_ble_eq_true rfl) (fun X hA hX hXn hXt => ?_)
  have hin : X.2.2.2.2.2.2.2.2.1.name = "<init>" := hXn
  show pr_G g X mX2_init.2.2.1 _ 0 0 0 [.ref a] [] T I L
  refine pr_z0 ?_
  refine pr_aload_n hA dX2_init_0 rfl ?_
  refine pr_objInit hA rfl kM_X2_3 kI_Object__init____V kO_Object__init____V (by decide) (by decide) dX2_init_1 ?_
  refine pr_aload_n hA dX2_init_4 rfl ?_
  refine pr_bipush hA (24) dX2_init_5 (by decide) ?_
  refine pr_al0 20 a 0 24 ?_
  refine pr_fA (at0 := .int) hA 20 0 0 24 0 0 (b0 := T.1) hlt ha rfl rfl (Or.inl rfl) rfl kY_int (by decide) (by decide) (by decide) f_X2_9 rfl hin (fun q hq => by cases hq; rfl) (by decide) (by decide) dX2_init_7 dX2_init_9 ?_
  refine pr_aload_n hA dX2_init_12 rfl ?_
  refine pr_bipush hA (24) dX2_init_13 (by decide) ?_
  refine pr_fA (at0 := .int) hA 20 0 0 24 1 1 (b0 := T.1) hlt ha rfl rfl (Or.inl rfl) rfl kY_int (by decide) (by decide) (by decide) f_X2_15 rfl hin (fun q hq => by cases hq; rfl) (by decide) (by decide) dX2_init_15 dX2_init_17 ?_
  refine pr_aload_n hA dX2_init_20 rfl ?_
  refine pr_bipush hA (24) dX2_init_21 (by decide) ?_
  refine pr_fA (at0 := .int) hA 20 0 0 24 2 2 (b0 := T.1) hlt ha rfl rfl (Or.inl rfl) rfl kY_int (by decide) (by decide) (by decide) f_X2_18 rfl hin (fun q hq => by cases hq; rfl) (by decide) (by decide) dX2_init_23 dX2_init_25 ?_
  refine pr_aload_n hA dX2_init_28 rfl ?_
  refine pr_bipush hA (24) dX2_init_29 (by decide) ?_
  refine pr_fA (at0 := .int) hA 20 0 0 24 3 3 (b0 := T.1) hlt ha rfl rfl (Or.inl rfl) rfl kY_int (by decide) (by decide) (by decide) f_X2_21 rfl hin (fun q hq => by cases hq; rfl) (by decide) (by decide) dX2_init_31 dX2_init_33 ?_
  refine pr_aload_n hA dX2_init_36 rfl ?_
  refine pr_bipush hA (24) dX2_init_37 (by decide) ?_
  refine pr_fA (at0 := .int) hA 20 0 0 24 4 4 (b0 := T.1) hlt ha rfl rfl (Or.inl rfl) rfl kY_int (by decide) (by decide) (by decide) f_X2_24 rfl hin (fun q hq => by cases hq; rfl) (by decide) (by decide) dX2_init_39 dX2_init_41 ?_
  refine pr_aload_n hA dX2_init_44 rfl ?_
  refine pr_bipush hA (24) dX2_init_45 (by decide) ?_
  refine pr_fA (at0 := .int) hA 20 0 0 24 5 5 (b0 := T.1) hlt ha rfl rfl (Or.inl rfl) rfl kY_int (by decide) (by decide) (by decide) f_X2_27 rfl hin (fun q hq => by cases hq; rfl) (by decide) (by decide) dX2_init_47 dX2_init_49 ?_
  refine pr_aload_n hA dX2_init_52 rfl ?_
  refine pr_bipush hA (24) dX2_init_53 (by decide) ?_
  refine pr_fA (at0 := .int) hA 20 0 0 24 6 6 (b0 := T.1) hlt ha rfl rfl (Or.inl rfl) rfl kY_int (by decide) (by decide) (by decide) f_X2_30 rfl hin (fun q hq => by cases hq; rfl) (by decide) (by decide) dX2_init_55 dX2_init_57 ?_
  refine pr_aload_n hA dX2_init_60 rfl ?_
  refine pr_iconst hA (0) dX2_init_61 (by decide) ?_
  refine pr_putE hA f_X2_33 rfl ((alT_k hlt).trans ha) (zI_self hI hlt) dX2_init_62 ?_
  refine pr_aload_n hA dX2_init_65 rfl ?_
  refine pr_iconst hA (0) dX2_init_66 (by decide) ?_
  refine pr_putE hA f_X2_37 rfl ((alT_k hlt).trans ha) (zI_self hI hlt) dX2_init_67 ?_
  exact pr_return hA rfl (by decide) (by decide) dX2_init_70 ⟨rfl, rfl, rfl, rfl⟩
def tX3_init (T : pr_T) (a : Nat) : pr_T := (alT (alT T 20 a 0 11 1) 20 a 2 12 1)
theorem c_X3_init {g : pr_C} {l : Launch} (hl : l.stackTraces = false) {T : pr_T} {I : pr_I} {L : pr_L} {a : Nat} (ha : T.2.1 a = (3, 0)) (hlt : a < T.1) (hI : I a = fun _ => 0) : pr_M g l 1 2 23 mX3_init [.ref a] T I L (pr_R none (tX3_init T a) (zI I T.1 2) L) pr_no := by
  refine pr_ofG (by decide) rfl hl (Nat.le_of_ble_eq_true rfl) (fun X hA hX hXn hXt => ?_)
  have hin : X.2.2.2.2.2.2.2.2.1.name = "<init>" := hXn
  show pr_G g X mX3_init.2.2.1 _ 0 0 0 [.ref a] [] T I L
  refine pr_z0 ?_
  refine pr_aload_n hA dX3_init_0 rfl ?_
  refine pr_objInit hA rfl kM_X3_3 kI_Object__init____V kO_Object__init____V (by decide) (by decide) dX3_init_1 ?_
  refine pr_aload_n hA dX3_init_4 rfl ?_
  refine pr_bipush hA (11) dX3_init_5 (by decide) ?_
  refine pr_al0 20 a 0 11 ?_
  refine pr_fA (at0 := .int) hA 20 0 0 11 0 0 (b0 := T.1) hlt ha rfl rfl (Or.inl rfl) rfl kY_int (by decide) (by decide) (by decide) f_X3_9 rfl hin (fun q hq => by cases hq; rfl) (by decide) (by decide) dX3_init_7 dX3_init_9 ?_
  refine pr_aload_n hA dX3_init_12 rfl ?_
  refine pr_iconst hA (0) dX3_init_13 (by decide) ?_
  refine pr_putE hA f_X3_15 rfl ((alT_k hlt).trans ha) (zI_self hI hlt) dX3_init_14 ?_
  refine pr_aload_n hA dX3_init_17 rfl ?_
  refine pr_bipush hA (12) dX3_init_18 (by decide) ?_
  have hT1 : (alT T 20 a 0 11 1).2.1 a = (3, 0) := (alT_k hlt).trans ha
  have hL1 : a < (alT T 20 a 0 11 1).1 := by show a < T.1 + 1; omega
  refine pr_al0 20 a 2 12 ?_
  refine pr_fA (at0 := .int) hA 20 0 2 12 0 1 (b0 := T.1) hL1 hT1 rfl rfl (Or.inl rfl) rfl kY_int (by decide) (by decide) (by decide) f_X3_19 rfl hin (fun q hq => by cases hq; rfl) (by decide) (by decide) dX3_init_20 dX3_init_22 ?_
  exact pr_return hA rfl (by decide) (by decide) dX3_init_25 ⟨rfl, rfl, rfl, rfl⟩
def tX5_init (T : pr_T) (a : Nat) : pr_T := (alT T 20 a 0 500 8)
theorem c_X5_init {g : pr_C} {l : Launch} (hl : l.stackTraces = false) {T : pr_T} {I : pr_I} {L : pr_L} {a : Nat} (ha : T.2.1 a = (5, 0)) (hlt : a < T.1) (hI : I a = fun _ => 0) : pr_M g l 1 8 4000 mX5_init [.ref a] T I L (pr_R none (tX5_init T a) (zI I T.1 8) L) pr_no := by
  refine pr_ofG (by decide) rfl hl (Nat.le_of_ble_eq_true rfl) (fun X hA hX hXn hXt => ?_)
  have hin : X.2.2.2.2.2.2.2.2.1.name = "<init>" := hXn
  show pr_G g X mX5_init.2.2.1 _ 0 0 0 [.ref a] [] T I L
  refine pr_z0 ?_
  refine pr_aload_n hA dX5_init_0 rfl ?_
  refine pr_objInit hA rfl kM_X5_3 kI_Object__init____V kO_Object__init____V (by decide) (by decide) dX5_init_1 ?_
  refine pr_aload_n hA dX5_init_4 rfl ?_
  refine pr_sipush hA (500) dX5_init_5 (by decide) ?_
  refine pr_al0 20 a 0 500 ?_
  refine pr_fA (at0 := .int) hA 20 0 0 500 0 0 (b0 := T.1) hlt ha rfl rfl (Or.inl rfl) rfl kY_int (by decide) (by decide) (by decide) f_X5_9 rfl hin (fun q hq => by cases hq; rfl) (by decide) (by decide) dX5_init_8 dX5_init_10 ?_
  refine pr_aload_n hA dX5_init_13 rfl ?_
  refine pr_sipush hA (500) dX5_init_14 (by decide) ?_
  refine pr_fA (at0 := .int) hA 20 0 0 500 1 1 (b0 := T.1) hlt ha rfl rfl (Or.inl rfl) rfl kY_int (by decide) (by decide) (by decide) f_X5_15 rfl hin (fun q hq => by cases hq; rfl) (by decide) (by decide) dX5_init_17 dX5_init_19 ?_
  refine pr_aload_n hA dX5_init_22 rfl ?_
  refine pr_sipush hA (500) dX5_init_23 (by decide) ?_
  refine pr_fA (at0 := .int) hA 20 0 0 500 2 2 (b0 := T.1) hlt ha rfl rfl (Or.inl rfl) rfl kY_int (by decide) (by decide) (by decide) f_X5_18 rfl hin (fun q hq => by cases hq; rfl) (by decide) (by decide) dX5_init_26 dX5_init_28 ?_
  refine pr_aload_n hA dX5_init_31 rfl ?_
  refine pr_sipush hA (500) dX5_init_32 (by decide) ?_
  refine pr_fA (at0 := .int) hA 20 0 0 500 3 3 (b0 := T.1) hlt ha rfl rfl (Or.inl rfl) rfl kY_int (by decide) (by decide) (by decide) f_X5_21 rfl hin (fun q hq => by cases hq; rfl) (by decide) (by decide) dX5_init_35 dX5_init_37 ?_
  refine pr_aload_n hA dX5_init_40 rfl ?_
  refine pr_sipush hA (500) dX5_init_41 (by decide) ?_
  refine pr_fA (at0 := .int) hA 20 0 0 500 4 4 (b0 := T.1) hlt ha rfl rfl (Or.inl rfl) rfl kY_int (by decide) (by decide) (by decide) f_X5_24 rfl hin (fun q hq => by cases hq; rfl) (by decide) (by decide) dX5_init_44 dX5_init_46 ?_
  refine pr_aload_n hA dX5_init_49 rfl ?_
  refine pr_sipush hA (500) dX5_init_50 (by decide) ?_
  refine pr_fA (at0 := .int) hA 20 0 0 500 5 5 (b0 := T.1) hlt ha rfl rfl (Or.inl rfl) rfl kY_int (by decide) (by decide) (by decide) f_X5_27 rfl hin (fun q hq => by cases hq; rfl) (by decide) (by decide) dX5_init_53 dX5_init_55 ?_
  refine pr_aload_n hA dX5_init_58 rfl ?_
  refine pr_sipush hA (500) dX5_init_59 (by decide) ?_
  refine pr_fA (at0 := .int) hA 20 0 0 500 6 6 (b0 := T.1) hlt ha rfl rfl (Or.inl rfl) rfl kY_int (by decide) (by decide) (by decide) f_X5_30 rfl hin (fun q hq => by cases hq; rfl) (by decide) (by decide) dX5_init_62 dX5_init_64 ?_
  refine pr_aload_n hA dX5_init_67 rfl ?_
  refine pr_sipush hA (500) dX5_init_68 (by decide) ?_
  refine pr_fA (at0 := .int) hA 20 0 0 500 7 7 (b0 := T.1) hlt ha rfl rfl (Or.inl rfl) rfl kY_int (by decide) (by decide) (by decide) f_X5_33 rfl hin (fun q hq => by cases hq; rfl) (by decide) (by decide) dX5_init_71 dX5_init_73 ?_
  refine pr_aload_n hA dX5_init_76 rfl ?_
  refine pr_iconst hA (0) dX5_init_77 (by decide) ?_
  refine pr_putE hA f_X5_36 rfl ((alT_k hlt).trans ha) (zI_self hI hlt) dX5_init_78 ?_
  exact pr_return hA rfl (by decide) (by decide) dX5_init_81 ⟨rfl, rfl, rfl, rfl⟩
def tX4_init (T : pr_T) (a : Nat) : pr_T := (pr_upr (mm_T (pr_upr (mm_T (alT T 20 a 0 40 15) 40 11) a 15 (some (alT T 20 a 0 40 15).1)) 40 11) a 16 (some (pr_upr (mm_T (alT T 20 a 0 40 15) 40 11) a 15 (some (alT T 20 a 0 40 15).1)).1))
theorem c_X4_init {g : pr_C} {l : Launch} (hl : l.stackTraces = false) {T : pr_T} {I : pr_I} {L : pr_L} {a : Nat} (ha : T.2.1 a = (4, 0)) (hlt : a < T.1) (hI : I a = fun _ => 0) : pr_M g l 1 97 1560 mX4_init [.ref a] T I L (pr_R none (tX4_init T a) (zI I T.1 97) L) pr_no := by
  refine pr_ofG (by decide) rfl hl (Nat.le_of_ble_eq_true rfl) (fun X hA hX hXn hXt => ?_)
  have hin : X.2.2.2.2.2.2.2.2.1.name = "<init>" := hXn
  show pr_G g X mX4_init.2.2.1 _ 0 0 0 [.ref a] [] T I L
  refine pr_z0 ?_
  refine pr_aload_n hA dX4_init_0 rfl ?_
  refine pr_objInit hA rfl kM_X4_3 kI_Object__init____V kO_Object__init____V (by decide) (by decide) dX4_init_1 ?_
  refine pr_aload_n hA dX4_init_4 rfl ?_
  refine pr_bipush hA (40) dX4_init_5 (by decide) ?_
  refine pr_al0 20 a 0 40 ?_
  refine pr_fA (at0 := .int) hA 20 0 0 40 0 0 (b0 := T.1) hlt ha rfl rfl (Or.inl rfl) rfl kY_int (by decide) (by decide) (by decide) f_X4_9 rfl hin (fun q hq => by cases hq; rfl) (by decide) (by decide) dX4_init_7 dX4_init_9 ?_
  refine pr_aload_n hA dX4_init_12 rfl ?_
  refine pr_bipush hA (40) dX4_init_13 (by decide) ?_
  refine pr_fA (at0 := .int) hA 20 0 0 40 1 1 (b0 := T.1) hlt ha rfl rfl (Or.inl rfl) rfl kY_int (by decide) (by decide) (by decide) f_X4_15 rfl hin (fun q hq => by cases hq; rfl) (by decide) (by decide) dX4_init_15 dX4_init_17 ?_
  refine pr_aload_n hA dX4_init_20 rfl ?_
  refine pr_bipush hA (40) dX4_init_21 (by decide) ?_
  refine pr_fA (at0 := .int) hA 20 0 0 40 2 2 (b0 := T.1) hlt ha rfl rfl (Or.inl rfl) rfl kY_int (by decide) (by decide) (by decide) f_X4_18 rfl hin (fun q hq => by cases hq; rfl) (by decide) (by decide) dX4_init_23 dX4_init_25 ?_
  refine pr_aload_n hA dX4_init_28 rfl ?_
  refine pr_bipush hA (40) dX4_init_29 (by decide) ?_
  refine pr_fA (at0 := .int) hA 20 0 0 40 3 3 (b0 := T.1) hlt ha rfl rfl (Or.inl rfl) rfl kY_int (by decide) (by decide) (by decide) f_X4_21 rfl hin (fun q hq => by cases hq; rfl) (by decide) (by decide) dX4_init_31 dX4_init_33 ?_
  refine pr_aload_n hA dX4_init_36 rfl ?_
  refine pr_bipush hA (40) dX4_init_37 (by decide) ?_
  refine pr_fA (at0 := .int) hA 20 0 0 40 4 4 (b0 := T.1) hlt ha rfl rfl (Or.inl rfl) rfl kY_int (by decide) (by decide) (by decide) f_X4_24 rfl hin (fun q hq => by cases hq; rfl) (by decide) (by decide) dX4_init_39 dX4_init_41 ?_
  refine pr_aload_n hA dX4_init_44 rfl ?_
  refine pr_bipush hA (40) dX4_init_45 (by decide) ?_
  refine pr_fA (at0 := .int) hA 20 0 0 40 5 5 (b0 := T.1) hlt ha rfl rfl (Or.inl rfl) rfl kY_int (by decide) (by decide) (by decide) f_X4_27 rfl hin (fun q hq => by cases hq; rfl) (by decide) (by decide) dX4_init_47 dX4_init_49 ?_
  refine pr_aload_n hA dX4_init_52 rfl ?_
  refine pr_bipush hA (40) dX4_init_53 (by decide) ?_
  refine pr_fA (at0 := .int) hA 20 0 0 40 6 6 (b0 := T.1) hlt ha rfl rfl (Or.inl rfl) rfl kY_int (by decide) (by decide) (by decide) f_X4_30 rfl hin (fun q hq => by cases hq; rfl) (by decide) (by decide) dX4_init_55 dX4_init_57 ?_
  refine pr_aload_n hA dX4_init_60 rfl ?_
  refine pr_bipush hA (40) dX4_init_61 (by decide) ?_
  refine pr_fA (at0 := .int) hA 20 0 0 40 7 7 (b0 := T.1) hlt ha rfl rfl (Or.inl rfl) rfl kY_int (by decide) (by decide) (by decide) f_X4_33 rfl hin (fun q hq => by cases hq; rfl) (by decide) (by decide) dX4_init_63 dX4_init_65 ?_
  refine pr_aload_n hA dX4_init_68 rfl ?_
  refine pr_bipush hA (40) dX4_init_69 (by decide) ?_
  refine pr_fA (at0 := .int) hA 20 0 0 40 8 8 (b0 := T.1) hlt ha rfl rfl (Or.inl rfl) rfl kY_int (by decide) (by decide) (by decide) f_X4_36 rfl hin (fun q hq => by cases hq; rfl) (by decide) (by decide) dX4_init_71 dX4_init_73 ?_
  refine pr_aload_n hA dX4_init_76 rfl ?_
  refine pr_bipush hA (40) dX4_init_77 (by decide) ?_
  refine pr_fA (at0 := .int) hA 20 0 0 40 9 9 (b0 := T.1) hlt ha rfl rfl (Or.inl rfl) rfl kY_int (by decide) (by decide) (by decide) f_X4_39 rfl hin (fun q hq => by cases hq; rfl) (by decide) (by decide) dX4_init_79 dX4_init_81 ?_
  refine pr_aload_n hA dX4_init_84 rfl ?_
  refine pr_bipush hA (40) dX4_init_85 (by decide) ?_
  refine pr_fA (at0 := .int) hA 20 0 0 40 10 10 (b0 := T.1) hlt ha rfl rfl (Or.inl rfl) rfl kY_int (by decide) (by decide) (by decide) f_X4_42 rfl hin (fun q hq => by cases hq; rfl) (by decide) (by decide) dX4_init_87 dX4_init_89 ?_
  refine pr_aload_n hA dX4_init_92 rfl ?_
  refine pr_bipush hA (40) dX4_init_93 (by decide) ?_
  refine pr_fA (at0 := .int) hA 20 0 0 40 11 11 (b0 := T.1) hlt ha rfl rfl (Or.inl rfl) rfl kY_int (by decide) (by decide) (by decide) f_X4_45 rfl hin (fun q hq => by cases hq; rfl) (by decide) (by decide) dX4_init_95 dX4_init_97 ?_
  refine pr_aload_n hA dX4_init_100 rfl ?_
  refine pr_bipush hA (40) dX4_init_101 (by decide) ?_
  refine pr_fA (at0 := .int) hA 20 0 0 40 12 12 (b0 := T.1) hlt ha rfl rfl (Or.inl rfl) rfl kY_int (by decide) (by decide) (by decide) f_X4_48 rfl hin (fun q hq => by cases hq; rfl) (by decide) (by decide) dX4_init_103 dX4_init_105 ?_
  refine pr_aload_n hA dX4_init_108 rfl ?_
  refine pr_bipush hA (40) dX4_init_109 (by decide) ?_
  refine pr_fA (at0 := .int) hA 20 0 0 40 13 13 (b0 := T.1) hlt ha rfl rfl (Or.inl rfl) rfl kY_int (by decide) (by decide) (by decide) f_X4_51 rfl hin (fun q hq => by cases hq; rfl) (by decide) (by decide) dX4_init_111 dX4_init_113 ?_
  refine pr_aload_n hA dX4_init_116 rfl ?_
  refine pr_bipush hA (40) dX4_init_117 (by decide) ?_
  refine pr_fA (at0 := .int) hA 20 0 0 40 14 14 (b0 := T.1) hlt ha rfl rfl (Or.inl rfl) rfl kY_int (by decide) (by decide) (by decide) f_X4_54 rfl hin (fun q hq => by cases hq; rfl) (by decide) (by decide) dX4_init_119 dX4_init_121 ?_
  refine pr_aload_n hA dX4_init_124 rfl ?_
  refine pr_bipush hA (40) dX4_init_125 (by decide) ?_
  refine pr_bipush hA (11) dX4_init_127 (by decide) ?_
  have hL1 : a < (alT T 20 a 0 40 15).1 := by show a < T.1 + 15; omega
  have hT1 : (alT T 20 a 0 40 15).2.1 a = (4, 0) := (alT_k hlt).trans ha
  refine pr_fM hA 40 11 15 15 (b0 := T.1) hL1 hT1 rfl kC_X4_57 (by decide) (by decide) (by decide) (by decide) (by decide) (by decide) f_X4_59 rfl hin (fun q hq => by cases hq; rfl) (by decide) (by decide) dX4_init_129 dX4_init_133 ?_
  have hL2 : a < (pr_upr (mm_T (alT T 20 a 0 40 15) 40 11) a 15 (some (alT T 20 a 0 40 15).1)).1 := by show a < T.1 + 56; omega
  have hT2 : (pr_upr (mm_T (alT T 20 a 0 40 15) 40 11) a 15 (some (alT T 20 a 0 40 15).1)).2.1 a = (4, 0) := (mm_k hL1).trans hT1
  refine pr_aload_n hA dX4_init_136 rfl ?_
  refine pr_bipush hA (40) dX4_init_137 (by decide) ?_
  refine pr_bipush hA (11) dX4_init_139 (by decide) ?_
  refine pr_fM hA 40 11 16 56 (b0 := T.1) hL2 hT2 rfl kC_X4_57 (by decide) (by decide) (by decide) (by decide) (by decide) (by decide) f_X4_62 rfl hin (fun q hq => by cases hq; rfl) (by decide) (by decide) dX4_init_141 dX4_init_145 ?_
  have hL3 : a < (pr_upr (mm_T (pr_upr (mm_T (alT T 20 a 0 40 15) 40 11) a 15 (some (alT T 20 a 0 40 15).1)) 40 11) a 16 (some (pr_upr (mm_T (alT T 20 a 0 40 15) 40 11) a 15 (some (alT T 20 a 0 40 15).1)).1)).1 := by show a < T.1 + 97; omega
  have hT3 : (pr_upr (mm_T (pr_upr (mm_T (alT T 20 a 0 40 15) 40 11) a 15 (some (alT T 20 a 0 40 15).1)) 40 11) a 16 (some (pr_upr (mm_T (alT T 20 a 0 40 15) 40 11) a 15 (some (alT T 20 a 0 40 15).1)).1)).2.1 a = (4, 0) := (mm_k hL2).trans hT2
  refine pr_aload_n hA dX4_init_148 rfl ?_
  refine pr_iconst hA (0) dX4_init_149 (by decide) ?_
  refine pr_putE hA f_X4_65 rfl hT3 (zI_self hI hlt) dX4_init_150 ?_
  exact pr_return hA rfl (by decide) (by decide) dX4_init_153 ⟨rfl, rfl, rfl, rfl⟩
def tX0_init (T : pr_T) (a : Nat) : pr_T := (alT (alT T 20 a 0 24 2) 20 a 2 12 2)
theorem c_X0_init {g : pr_C} {l : Launch} (hl : l.stackTraces = false) {T : pr_T} {I : pr_I} {L : pr_L} {a : Nat} (ha : T.2.1 a = (0, 0)) (hlt : a < T.1) (hI : I a = fun _ => 0) : pr_M g l 1 4 72 mX0_init [.ref a] T I L (pr_R none (tX0_init T a) (zI I T.1 4) L) pr_no := by
  refine pr_ofG (by decide) rfl hl (Nat.le_of_ble_eq_true rfl) (fun X hA hX hXn hXt => ?_)
  have hin : X.2.2.2.2.2.2.2.2.1.name = "<init>" := hXn
  show pr_G g X mX0_init.2.2.1 _ 0 0 0 [.ref a] [] T I L
  refine pr_z0 ?_
  refine pr_aload_n hA dX0_init_0 rfl ?_
  refine pr_objInit hA rfl kM_X0_3 kI_Object__init____V kO_Object__init____V (by decide) (by decide) dX0_init_1 ?_
  refine pr_aload_n hA dX0_init_4 rfl ?_
  refine pr_bipush hA (24) dX0_init_5 (by decide) ?_
  refine pr_al0 20 a 0 24 ?_
  refine pr_fA (at0 := .int) hA 20 0 0 24 0 0 (b0 := T.1) hlt ha rfl rfl (Or.inl rfl) rfl kY_int (by decide) (by decide) (by decide) f_X0_9 rfl hin (fun q hq => by cases hq; rfl) (by decide) (by decide) dX0_init_7 dX0_init_9 ?_
  refine pr_aload_n hA dX0_init_12 rfl ?_
  refine pr_bipush hA (24) dX0_init_13 (by decide) ?_
  refine pr_fA (at0 := .int) hA 20 0 0 24 1 1 (b0 := T.1) hlt ha rfl rfl (Or.inl rfl) rfl kY_int (by decide) (by decide) (by decide) f_X0_15 rfl hin (fun q hq => by cases hq; rfl) (by decide) (by decide) dX0_init_15 dX0_init_17 ?_
  refine pr_aload_n hA dX0_init_20 rfl ?_
  refine pr_bipush hA (12) dX0_init_21 (by decide) ?_
  have hT1 : (alT T 20 a 0 24 2).2.1 a = (0, 0) := (alT_k hlt).trans ha
  have hL1 : a < (alT T 20 a 0 24 2).1 := by show a < T.1 + 2; omega
  refine pr_al0 20 a 2 12 ?_
  refine pr_fA (at0 := .int) hA 20 0 2 12 0 2 (b0 := T.1) hL1 hT1 rfl rfl (Or.inl rfl) rfl kY_int (by decide) (by decide) (by decide) f_X0_18 rfl hin (fun q hq => by cases hq; rfl) (by decide) (by decide) dX0_init_23 dX0_init_25 ?_
  refine pr_aload_n hA dX0_init_28 rfl ?_
  refine pr_bipush hA (12) dX0_init_29 (by decide) ?_
  refine pr_fA (at0 := .int) hA 20 0 2 12 1 3 (b0 := T.1) hL1 hT1 rfl rfl (Or.inl rfl) rfl kY_int (by decide) (by decide) (by decide) f_X0_21 rfl hin (fun q hq => by cases hq; rfl) (by decide) (by decide) dX0_init_31 dX0_init_33 ?_
  refine pr_aload_n hA dX0_init_36 rfl ?_
  refine pr_iconst hA (0) dX0_init_37 (by decide) ?_
  refine pr_putE hA f_X0_24 rfl ((alT_k hL1).trans hT1) (zI_self hI hlt) dX0_init_38 ?_
  exact pr_return hA rfl (by decide) (by decide) dX0_init_41 ⟨rfl, rfl, rfl, rfl⟩
def tX1_init (T : pr_T) (a : Nat) : pr_T := (alT T 22 a 2 700 1)
theorem c_X1_init {g : pr_C} {l : Launch} (hl : l.stackTraces = false) {T : pr_T} {I : pr_I} {L : pr_L} {a : Nat} (ha : T.2.1 a = (1, 0)) (hlt : a < T.1) (hI : I a = fun _ => 0) : pr_M g l 1 1 700 mX1_init [.ref a] T I L (pr_R none (tX1_init T a) (zI I T.1 1) L) pr_no := by
  refine pr_ofG (by decide) rfl hl (Nat.le_of_ble_eq_true rfl) (fun X hA hX hXn hXt => ?_)
  have hin : X.2.2.2.2.2.2.2.2.1.name = "<init>" := hXn
  show pr_G g X mX1_init.2.2.1 _ 0 0 0 [.ref a] [] T I L
  refine pr_z0 ?_
  refine pr_aload_n hA dX1_init_0 rfl ?_
  refine pr_objInit hA rfl kM_X1_3 kI_Object__init____V kO_Object__init____V (by decide) (by decide) dX1_init_1 ?_
  refine pr_aload_n hA dX1_init_4 rfl ?_
  refine pr_iconst hA (0) dX1_init_5 (by decide) ?_
  refine pr_putE hA f_X1_9 rfl ha (zI_self hI hlt) dX1_init_6 ?_
  refine pr_aload_n hA dX1_init_9 rfl ?_
  refine pr_iconst hA (0) dX1_init_10 (by decide) ?_
  refine pr_putE hA f_X1_15 rfl ha (zI_self hI hlt) dX1_init_11 ?_
  refine pr_aload_n hA dX1_init_14 rfl ?_
  refine pr_sipush hA (700) dX1_init_15 (by decide) ?_
  refine pr_al0 22 a 2 700 ?_
  refine pr_fA (at0 := .byte) hA 22 2 2 700 0 0 (b0 := T.1) hlt ha rfl rfl (Or.inr (Or.inl rfl)) rfl kY_byte (by decide) (by decide) (by decide) f_X1_18 rfl hin (fun q hq => by cases hq; rfl) (by decide) (by decide) dX1_init_18 dX1_init_20 ?_
  refine pr_aload_n hA dX1_init_23 rfl ?_
  refine pr_iconst hA (0) dX1_init_24 (by decide) ?_
  refine pr_putE hA f_X1_22 rfl ((alT_k hlt).trans ha) (zI_self hI hlt) dX1_init_25 ?_
  refine pr_aload_n hA dX1_init_28 rfl ?_
  refine pr_iconst hA (0) dX1_init_29 (by decide) ?_
  refine pr_putE hA f_X1_25 rfl ((alT_k hlt).trans ha) (zI_self hI hlt) dX1_init_30 ?_
  refine pr_aload_n hA dX1_init_33 rfl ?_
  refine pr_iconst hA (0) dX1_init_34 (by decide) ?_
  refine pr_putE hA f_X1_28 rfl ((alT_k hlt).trans ha) (zI_self hI hlt) dX1_init_35 ?_
  exact pr_return hA rfl (by decide) (by decide) dX1_init_38 ⟨rfl, rfl, rfl, rfl⟩
