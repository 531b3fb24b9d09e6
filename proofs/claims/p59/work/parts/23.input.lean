/-! THE INPUT -/
section PRB
variable {g : pr_C} {X : pr_X} {M : pr_MD} {d mc ms : Nat} {nL : Nat} {Q : State → Prop} {cs sl pc : Nat} {ls st : List Value} {T : pr_T} {I : pr_I} {L : pr_L}
theorem pr_baldE (hA : pr_Am g X M d mc ms) {a n : Nat} {j v : Int32} (ha : T.2.1 a = (22, n)) (hin : vp_in j n) (hr : I a j.toNatClampNeg = v) (hd : decode M.2.1 pc = .ok (.baload, 1)) (kk : pr_G g X nL Q cs sl (pc + 1) ls (.int v :: st) T I L) : pr_G g X nL Q cs sl pc ls (.int j :: .ref a :: st) T I L := by
  subst hr; exact pr_bald hA ha hin hd kk
theorem pr_baldN (hA : pr_Am g X M d mc ms) {a n k : Nat} {v : Int32} (ha : T.2.1 a = (22, n)) (hk : k < n) (hn : n ≤ 5000) (hr : I a k = v) (hd : decode M.2.1 pc = .ok (.baload, 1)) (kk : pr_G g X nL Q cs sl (pc + 1) ls (.int v :: st) T I L) : pr_G g X nL Q cs sl pc ls (.int (nI k) :: .ref a :: st) T I L := by
  subst hr
  refine pr_bald hA ha (nI_vin hk (by omega)) hd ?_
  rw [nI_clamp (by omega)]; exact kk
theorem pr_bastE (hA : pr_Am g X M d mc ms) {a n : Nat} {j v : Int32} {I' : pr_I} (ha : T.2.1 a = (22, n)) (hin : vp_in j n) (hu : pr_up I a j.toNatClampNeg (vp_nar .byte v) = I') (hd : decode M.2.1 pc = .ok (.bastore, 1)) (kk : pr_G g X nL Q cs sl (pc + 1) ls st T I' L) : pr_G g X nL Q cs sl pc ls (.int v :: .int j :: .ref a :: st) T I L := by
  subst hu; exact pr_bast hA ha hin hd kk
end PRB
/-- an Input: itself, its text -/
def pr_In (T : pr_T) (y : Nat) : Prop := T.2.1 y = (1, 0) ∧ T.2.1 (y + 1) = (22, 700) ∧ T.2.2 y 2 = some (y + 1)
theorem in_k0 {T : pr_T} {y : Nat} (h : pr_In T y) : T.2.1 y = (1, 0) := h.1
theorem in_k1 {T : pr_T} {y : Nat} (h : pr_In T y) : T.2.1 (y + 1) = (22, 700) := h.2.1
theorem in_f0_2 {T : pr_T} {y : Nat} (h : pr_In T y) : T.2.2 y 2 = some (y + 1) := h.2.2
def in_I (φ : pr_I) : Prop := vp_in (φ 0 3) 701 ∧ vp_in (φ 0 4) 701
theorem in_I.up4 {φ : pr_I} {v : Int32} (h : in_I φ) (hv : vp_in v 701) : in_I (pr_up φ 0 4 v) := ⟨h.1, hv⟩
theorem in_I.up3 {φ : pr_I} {v : Int32} (h : in_I φ) (hv : vp_in v 701) : in_I (pr_up φ 0 3 v) := ⟨hv, h.2⟩
theorem in_I.up0 {φ : pr_I} {v : Int32} (h : in_I φ) : in_I (pr_up φ 0 0 v) := h
theorem in_I.up1 {φ : pr_I} {v : Int32} (h : in_I φ) : in_I (pr_up φ 0 1 v) := h
theorem in_I.up5 {φ : pr_I} {v : Int32} (h : in_I φ) : in_I (pr_up φ 0 5 v) := h
theorem in_I.upt {φ : pr_I} {k : Nat} {v : Int32} (h : in_I φ) : in_I (pr_up φ 1 k v) := ⟨by rw [pr_up_ne (by decide)]; exact h.1, by rw [pr_up_ne (by decide)]; exact h.2⟩
theorem vp_701 {a b : Int32} (ha : vp_in a 701) (hb : vp_in b 701) (c : ¬ b ≤ a) : vp_in a 700 ∧ vp_in (a + 1) 701 := by
  obtain ⟨i, hi, rfl⟩ := vp_in_of ha (by decide)
  obtain ⟨j, hj, rfl⟩ := vp_in_of hb (by decide)
  have : ¬ j ≤ i := fun q => c ((nI_leI (by omega) (by omega)).mpr q)
  exact ⟨nI_vin (by omega) (by decide), by rw [nI_1]; exact nI_vin (by omega) (by decide)⟩
theorem in_at {φ : pr_I} (h : in_I φ) (c : ¬ φ 0 3 ≤ φ 0 4) : vp_in (φ 0 4) 700 := (vp_701 h.2 h.1 c).1
theorem in_inc {φ : pr_I} (h : in_I φ) (c : ¬ φ 0 3 ≤ φ 0 4) : vp_in (φ 0 4 + 1) 701 := (vp_701 h.2 h.1 c).2
noncomputable def in_fail (σ : pr_I) (e : Int32) (p : Int32) : pr_I := (if (σ 0 0) = 0 then (pr_up (pr_up σ 0 0 e) 0 1 p) else σ)
set_option maxRecDepth 100000 in
set_option maxHeartbeats 400000 in
theorem c_in_fail {g : pr_C} {l : Launch} (hl : l.stackTraces = false) {T : pr_T} {I : pr_I} {L : pr_L} {y : Nat} {σ : pr_I} {e : Int32} {p : Int32} (hy : pr_In T y)  : pr_M g l 1 0 0 mX1_fail [.ref y, .int e, .int p] T (rg_put I y 2 σ) L (pr_R none T (rg_put I y 2 (in_fail σ e p)) L) pr_no := by
  refine pr_ofG (by decide) rfl hl (Nat.le_of_ble_eq_true rfl) (fun X hA hX hXn hXt => ?_)
  subst hX
  show pr_G g X mX1_fail.2.2.1 _ 0 0 0 [.ref y, .int e, .int p] [] T (rg_put I y 2 σ) L
  refine pr_aload_n hA dX1_fail_0 rfl ?_
  refine pr_getE (v := (σ 0 0)) hA f_X1_9 rfl (in_k0 hy) (rg_val0 (by decide)) dX1_fail_1 ?_
  refine pr_if_ne hA 17 dX1_fail_4 (by decide) (fun c_4 => ?_) (fun c_4 => ?_)
  · exact pr_return hA rfl (Nat.zero_le _) (Nat.zero_le _) dX1_fail_17 ⟨rfl, rfl, (by simp only [in_fail, if_neg c_4]), rfl⟩
  · refine pr_aload_n hA dX1_fail_7 rfl ?_
    refine pr_iload_n hA dX1_fail_8 rfl ?_
    refine pr_putE (I' := (rg_put I y 2 (pr_up σ 0 0 e))) hA f_X1_9 rfl (in_k0 hy) (rg_up0 (by decide)) dX1_fail_9 ?_
    refine pr_aload_n hA dX1_fail_12 rfl ?_
    refine pr_iload_n hA dX1_fail_13 rfl ?_
    refine pr_putE (I' := (rg_put I y 2 (pr_up (pr_up σ 0 0 e) 0 1 p))) hA f_X1_15 rfl (in_k0 hy) (rg_up0 (by decide)) dX1_fail_14 ?_
    exact pr_return hA rfl (Nat.zero_le _) (Nat.zero_le _) dX1_fail_17 ⟨rfl, rfl, (by simp only [in_fail, if_pos c_4]), rfl⟩

theorem fr_in_fail {σ : pr_I} {e : Int32} {p : Int32} {o : Nat} (hms : ∀ m ∈ ([0] : List Nat), o ≠ m) : in_fail σ e p o = σ o := by
  unfold in_fail
  simp only [List.mem_cons, List.not_mem_nil, or_false, forall_eq_or_imp, forall_eq] at hms
  by_cases c_4 : (σ 0 0) = 0
  · refine (congrFun (if_pos c_4) o).trans ?_
    rw [pr_up_ne (by omega), pr_up_ne (by omega)]
  · refine (congrFun (if_neg c_4) o).trans ?_
    rfl

theorem inI_in_fail {φ : pr_I} {e p : Int32} (h : in_I φ) : in_I (in_fail φ e p) := by unfold in_fail; split <;> exact h
noncomputable def in_sk_it2 (σ : pr_I) : Nat → pr_I
  | 0 => σ
  | k + 1 => (if ((in_sk_it2 σ k) 0 3) ≤ ((in_sk_it2 σ k) 0 4) then (in_sk_it2 σ k) else (if (σ 1 (((in_sk_it2 σ k) 0 4).toNatClampNeg)) = (32 : Int32) then (pr_up (in_sk_it2 σ k) 0 4 (((in_sk_it2 σ k) 0 4) + (1 : Int32))) else (in_sk_it2 σ k)))
theorem fr_in_sk_it2 {σ : pr_I} {o : Nat} (hms : ∀ m ∈ ([0] : List Nat), o ≠ m) : ∀ {k : Nat}, (in_sk_it2 σ k) o = σ o := by
  simp only [List.mem_cons, List.not_mem_nil, or_false, forall_eq_or_imp, forall_eq] at hms
  intro k
  induction k with
  | zero =>
    show σ o = σ o
    rfl
  | succ k ih =>
    by_cases c_17 : ((in_sk_it2 σ k) 0 3) ≤ ((in_sk_it2 σ k) 0 4)
    · refine (congrFun (congrArg (fun z : pr_I => z) (if_pos c_17)) o).trans ?_
      show (in_sk_it2 σ k) o = σ o
      rw [ih]
    · refine (congrFun (congrArg (fun z : pr_I => z) (if_neg c_17)) o).trans ?_
      by_cases c_31 : (σ 1 (((in_sk_it2 σ k) 0 4).toNatClampNeg)) = (32 : Int32)
      · refine (congrFun (congrArg (fun z : pr_I => z) (if_pos c_31)) o).trans ?_
        show (pr_up (in_sk_it2 σ k) 0 4 (((in_sk_it2 σ k) 0 4) + (1 : Int32))) o = σ o
        rw [pr_up_ne (by omega), ih]
      · refine (congrFun (congrArg (fun z : pr_I => z) (if_neg c_31)) o).trans ?_
        show (in_sk_it2 σ k) o = σ o
        rw [ih]

theorem st_in_sk_it2_17 {σ : pr_I} {k : Nat} (c_17 : ((in_sk_it2 σ k) 0 3) ≤ ((in_sk_it2 σ k) 0 4)) : ∀ j, in_sk_it2 σ (k + j) = in_sk_it2 σ k
  | 0 => rfl
  | j + 1 => by
    have ih := st_in_sk_it2_17 c_17 j
    show in_sk_it2 σ ((k + j) + 1) = in_sk_it2 σ k
    simp only [in_sk_it2, ih, if_pos c_17]
theorem st_in_sk_it2_31 {σ : pr_I} {k : Nat} (c_17 : ¬ (((in_sk_it2 σ k) 0 3) ≤ ((in_sk_it2 σ k) 0 4))) (c_31 : ¬ ((σ 1 (((in_sk_it2 σ k) 0 4).toNatClampNeg)) = (32 : Int32))) : ∀ j, in_sk_it2 σ (k + j) = in_sk_it2 σ k
  | 0 => rfl
  | j + 1 => by
    have ih := st_in_sk_it2_31 c_17 c_31 j
    show in_sk_it2 σ ((k + j) + 1) = in_sk_it2 σ k
    simp only [in_sk_it2, ih, if_neg c_17, if_neg c_31]
noncomputable def in_sk (σ : pr_I) : pr_I := (in_sk_it2 σ (sl 700))
theorem in_sk_I {σ : pr_I} (hI : in_I σ) : ∀ k, in_I (in_sk_it2 σ k)
  | 0 => hI
  | k + 1 => by
    have ih := in_sk_I hI k
    simp only [in_sk_it2]
    (repeat' split) <;> first | exact ih | exact in_I.up4 ih (in_inc ih (by assumption))
set_option maxRecDepth 100000 in
set_option maxHeartbeats 400000 in
theorem c_in_sk {g : pr_C} {l : Launch} (hl : l.stackTraces = false) {T : pr_T} {I : pr_I} {L : pr_L} {y : Nat} {σ : pr_I}  (hy : pr_In T y) (hI : in_I σ) : pr_M g l 1 0 0 mX1_skipSpaces [.ref y] T (rg_put I y 2 σ) L (pr_R none T (rg_put I y 2 (in_sk σ)) L) pr_no := by
  refine pr_ofG (by decide) rfl hl (Nat.le_of_ble_eq_true rfl) (fun X hA hX hXn hXt => ?_)
  subst hX
  show pr_G g X mX1_skipSpaces.2.2.1 _ 0 0 0 [.ref y, .null] [] T (rg_put I y 2 σ) L
  have hsl700 := sl_eq 700
  refine pr_iconst hA (nI 0) dX1_skipSpaces_0 (by decide) ?_
  refine pr_istore_n (ls' := [_, _]) hA dX1_skipSpaces_1 (by decide) rfl ?_
  have lp2 : ∀ (j k : Nat), (sl 700) - k = j → k ≤ (sl 700) → pr_G g X mX1_skipSpaces.2.2.1 (pr_MQ g X (pr_R none T (rg_put I y 2 (in_sk σ)) L) pr_no 0 0) 0 0 2 [.ref y, .int (nI k)] [] T (rg_put I y 2 (in_sk_it2 σ k)) L := by
    intro j
    induction j using Nat.strongRecOn with | ind j ih2 =>
    intro k hj2 hk2
    refine pr_iload_n hA dX1_skipSpaces_2 rfl ?_
    refine pr_sipush hA (nI 700) dX1_skipSpaces_3 (by decide) ?_
    refine pr_icmp_ge hA 50 dX1_skipSpaces_6 (by decide) (fun c_6 => ?_) (fun c_6 => ?_)
    · have n_6 : 700 ≤ k := (nI_leI (by omega) (by omega)).mp c_6
      have hex : (sl 700) = k := by omega
      subst hex
      exact pr_return hA rfl (Nat.zero_le _) (Nat.zero_le _) dX1_skipSpaces_50 ⟨rfl, rfl, rfl, rfl⟩
    · have n_6 : ¬ 700 ≤ k := fun q => c_6 ((nI_leI (by omega) (by omega)).mpr q)
      refine pr_aload_n hA dX1_skipSpaces_9 rfl ?_
      refine pr_getE (v := ((in_sk_it2 σ k) 0 4)) hA f_X1_25 rfl (in_k0 hy) (rg_val0 (by decide)) dX1_skipSpaces_10 ?_
      refine pr_aload_n hA dX1_skipSpaces_13 rfl ?_
      refine pr_getE (v := ((in_sk_it2 σ k) 0 3)) hA f_X1_22 rfl (in_k0 hy) (rg_val0 (by decide)) dX1_skipSpaces_14 ?_
      refine pr_icmp_ge hA 50 dX1_skipSpaces_17 (by decide) (fun c_17 => ?_) (fun c_17 => ?_)
      · have hst := st_in_sk_it2_17 c_17 ((sl 700) - k)
        rw [show k + ((sl 700) - k) = (sl 700) from by omega] at hst
        refine pr_lessL (ls' := [.ref y, .null]) ⟨.inr rfl, .inl rfl, trivial⟩ ?_
        rw [← hst]
        exact pr_return hA rfl (Nat.zero_le _) (Nat.zero_le _) dX1_skipSpaces_50 ⟨rfl, rfl, rfl, rfl⟩
      · refine pr_aload_n hA dX1_skipSpaces_20 rfl ?_
        refine pr_getR hA f_X1_18 rfl (in_k0 hy) (in_f0_2 hy) dX1_skipSpaces_21 ?_
        refine pr_aload_n hA dX1_skipSpaces_24 rfl ?_
        refine pr_getE (v := ((in_sk_it2 σ k) 0 4)) hA f_X1_25 rfl (in_k0 hy) (rg_val0 (by decide)) dX1_skipSpaces_25 ?_
        refine pr_baldE (v := (σ 1 (((in_sk_it2 σ k) 0 4).toNatClampNeg))) hA (in_k1 hy) (in_at (in_sk_I hI k) c_17) ((rg_val (by decide)).trans (congrFun (fr_in_sk_it2 (by decide)) _)) dX1_skipSpaces_28 ?_
        refine pr_bipush hA (32) dX1_skipSpaces_29 (by decide) ?_
        refine pr_icmp_ne hA 50 dX1_skipSpaces_31 (by decide) (fun c_31 => ?_) (fun c_31 => ?_)
        · have hst := st_in_sk_it2_31 c_17 c_31 ((sl 700) - k)
          rw [show k + ((sl 700) - k) = (sl 700) from by omega] at hst
          refine pr_lessL (ls' := [.ref y, .null]) ⟨.inr rfl, .inl rfl, trivial⟩ ?_
          rw [← hst]
          exact pr_return hA rfl (Nat.zero_le _) (Nat.zero_le _) dX1_skipSpaces_50 ⟨rfl, rfl, rfl, rfl⟩
        · refine pr_aload_n hA dX1_skipSpaces_34 rfl ?_
          refine pr_dup hA dX1_skipSpaces_35 rfl ?_
          refine pr_getE (v := ((in_sk_it2 σ k) 0 4)) hA f_X1_25 rfl (in_k0 hy) (rg_val0 (by decide)) dX1_skipSpaces_36 ?_
          refine pr_iconst hA (1) dX1_skipSpaces_39 (by decide) ?_
          refine pr_iadd hA dX1_skipSpaces_40 ?_
          refine pr_putE (I' := (rg_put I y 2 (pr_up (in_sk_it2 σ k) 0 4 (((in_sk_it2 σ k) 0 4) + (1 : Int32))))) hA f_X1_25 rfl (in_k0 hy) (rg_up0 (by decide)) dX1_skipSpaces_41 ?_
          refine pr_iinc (ls' := [_, _]) hA (nI (k + 1)) dX1_skipSpaces_44 (by decide) rfl (nI_inc _) rfl ?_
          refine pr_goto hA 2 dX1_skipSpaces_47 (by decide) ?_
          have hb := ih2 ((sl 700) - (k + 1)) (by omega) (k + 1) rfl (by omega)
          simp only [in_sk_it2, if_neg c_17, if_pos c_31] at hb
          exact hb
  exact (lp2 ((sl 700) - 0) 0 rfl (by omega))

theorem fr_in_sk {σ : pr_I}  {o : Nat} (hms : ∀ m ∈ ([0] : List Nat), o ≠ m) : in_sk σ o = σ o := by
  unfold in_sk
  simp only [List.mem_cons, List.not_mem_nil, or_false, forall_eq_or_imp, forall_eq] at hms
  rw [fr_in_sk_it2 (by simp only [List.mem_cons, List.not_mem_nil, or_false, forall_eq_or_imp, forall_eq]; omega)]

theorem inI_in_sk {φ : pr_I} (h : in_I φ) : in_I (in_sk φ) := in_sk_I h _
noncomputable def in_nb_r (σ : pr_I) (a : Int32) (b : Int32) : Int32 := (if (σ 0 3) ≤ (σ 0 4) then (0 : Int32) else (if (σ 1 ((σ 0 4).toNatClampNeg)) < a then (0 : Int32) else (if b < (σ 1 ((σ 0 4).toNatClampNeg)) then (0 : Int32) else (1 : Int32))))
set_option maxRecDepth 100000 in
set_option maxHeartbeats 400000 in
theorem c_in_nb {g : pr_C} {l : Launch} (hl : l.stackTraces = false) {T : pr_T} {I : pr_I} {L : pr_L} {y : Nat} {σ : pr_I} {a : Int32} {b : Int32} (hy : pr_In T y) (hI : in_I σ) : pr_M g l 1 0 0 mX1_isNextBetween [.ref y, .int a, .int b] T (rg_put I y 2 σ) L (pr_R (some (.int (in_nb_r σ a b))) T (rg_put I y 2 σ) L) pr_no := by
  refine pr_ofG (by decide) rfl hl (Nat.le_of_ble_eq_true rfl) (fun X hA hX hXn hXt => ?_)
  subst hX
  show pr_G g X mX1_isNextBetween.2.2.1 _ 0 0 0 [.ref y, .int a, .int b] [] T (rg_put I y 2 σ) L
  refine pr_aload_n hA dX1_isNextBetween_0 rfl ?_
  refine pr_getE (v := (σ 0 4)) hA f_X1_25 rfl (in_k0 hy) (rg_val0 (by decide)) dX1_isNextBetween_1 ?_
  refine pr_aload_n hA dX1_isNextBetween_4 rfl ?_
  refine pr_getE (v := (σ 0 3)) hA f_X1_22 rfl (in_k0 hy) (rg_val0 (by decide)) dX1_isNextBetween_5 ?_
  refine pr_join (c := (σ 0 3) ≤ (σ 0 4)) (J := 42) (st := []) (0 : Int32) (if (σ 1 ((σ 0 4).toNatClampNeg)) < a then (0 : Int32) else (if b < (σ 1 ((σ 0 4).toNatClampNeg)) then (0 : Int32) else (1 : Int32))) inferInstance (fun kt kf => ?_) ?_
  · refine pr_icmp_ge hA 41 dX1_isNextBetween_8 (by decide) (fun c_8 => ?_) (fun c_8 => ?_)
    · refine pr_iconst hA (0) dX1_isNextBetween_41 (by decide) ?_
      exact kt c_8
    · refine pr_aload_n hA dX1_isNextBetween_11 rfl ?_
      refine pr_getR hA f_X1_18 rfl (in_k0 hy) (in_f0_2 hy) dX1_isNextBetween_12 ?_
      refine pr_aload_n hA dX1_isNextBetween_15 rfl ?_
      refine pr_getE (v := (σ 0 4)) hA f_X1_25 rfl (in_k0 hy) (rg_val0 (by decide)) dX1_isNextBetween_16 ?_
      refine pr_baldE (v := (σ 1 ((σ 0 4).toNatClampNeg))) hA (in_k1 hy) (in_at hI c_8) (rg_val (by decide)) dX1_isNextBetween_19 ?_
      refine pr_iload_n hA dX1_isNextBetween_20 rfl ?_
      refine pr_join (c := (σ 1 ((σ 0 4).toNatClampNeg)) < a) (J := 42) (st := []) (0 : Int32) (if b < (σ 1 ((σ 0 4).toNatClampNeg)) then (0 : Int32) else (1 : Int32)) inferInstance (fun kt kf => ?_) ?_
      · refine pr_icmp_lt hA 41 dX1_isNextBetween_21 (by decide) (fun c_21 => ?_) (fun c_21 => ?_)
        · refine pr_iconst hA (0) dX1_isNextBetween_41 (by decide) ?_
          exact kt c_21
        · refine pr_aload_n hA dX1_isNextBetween_24 rfl ?_
          refine pr_getR hA f_X1_18 rfl (in_k0 hy) (in_f0_2 hy) dX1_isNextBetween_25 ?_
          refine pr_aload_n hA dX1_isNextBetween_28 rfl ?_
          refine pr_getE (v := (σ 0 4)) hA f_X1_25 rfl (in_k0 hy) (rg_val0 (by decide)) dX1_isNextBetween_29 ?_
          refine pr_baldE (v := (σ 1 ((σ 0 4).toNatClampNeg))) hA (in_k1 hy) (in_at hI c_8) (rg_val (by decide)) dX1_isNextBetween_32 ?_
          refine pr_iload_n hA dX1_isNextBetween_33 rfl ?_
          refine pr_join (c := b < (σ 1 ((σ 0 4).toNatClampNeg))) (J := 42) (st := []) (0 : Int32) (1 : Int32) inferInstance (fun kt kf => ?_) ?_
          · refine pr_icmp_gt hA 41 dX1_isNextBetween_34 (by decide) (fun c_34 => ?_) (fun c_34 => ?_)
            · refine pr_iconst hA (0) dX1_isNextBetween_41 (by decide) ?_
              exact kt c_34
            · refine pr_iconst hA (1) dX1_isNextBetween_37 (by decide) ?_
              refine pr_goto hA 42 dX1_isNextBetween_38 (by decide) ?_
              exact kf c_34
          · exact kf c_21
      · exact kf c_8
  · exact pr_ireturn hA rfl (pr_nb (by (repeat' split) <;> simp)) (Nat.zero_le _) (Nat.zero_le _) dX1_isNextBetween_42 ⟨rfl, rfl, rfl, rfl⟩

theorem in_nb_at {φ : pr_I} {a b : Int32} (h : in_nb_r φ a b ≠ 0) : ¬ φ 0 3 ≤ φ 0 4 := by
  intro c
  apply h
  unfold in_nb_r
  rw [if_pos c]
noncomputable def in_end_r (σ : pr_I) : Int32 := (if ((in_sk σ) 0 4) < ((in_sk σ) 0 3) then (0 : Int32) else (1 : Int32))
noncomputable def in_end (σ : pr_I) : pr_I := (in_sk σ)
set_option maxRecDepth 100000 in
set_option maxHeartbeats 400000 in
theorem c_in_end {g : pr_C} {l : Launch} (hl : l.stackTraces = false) {T : pr_T} {I : pr_I} {L : pr_L} {y : Nat} {σ : pr_I}  (hy : pr_In T y) (hI : in_I σ) : pr_M g l 2 0 0 mX1_isAtEnd [.ref y] T (rg_put I y 2 σ) L (pr_R (some (.int (in_end_r σ))) T (rg_put I y 2 (in_end σ)) L) pr_no := by
  refine pr_ofG (by decide) rfl hl (Nat.le_of_ble_eq_true rfl) (fun X hA hX hXn hXt => ?_)
  subst hX
  show pr_G g X mX1_isAtEnd.2.2.1 _ 0 0 0 [.ref y] [] T (rg_put I y 2 σ) L
  refine pr_aload_n hA dX1_isAtEnd_0 rfl ?_
  refine pr_callVv hA [] (c_in_sk (y := y) (σ := σ) (pr_hl hA) hy hI) v_X1_127 (in_k0 hy) (by decide) rfl rfl rfl (by decide) (Nat.zero_le _) (Nat.zero_le _) rfl (Nat.le_of_ble_eq_true rfl) dX1_isAtEnd_1 ?_
  refine pr_aload_n hA dX1_isAtEnd_4 rfl ?_
  refine pr_getE (v := ((in_sk σ) 0 4)) hA f_X1_25 rfl (in_k0 hy) (rg_val0 (by decide)) dX1_isAtEnd_5 ?_
  refine pr_aload_n hA dX1_isAtEnd_8 rfl ?_
  refine pr_getE (v := ((in_sk σ) 0 3)) hA f_X1_22 rfl (in_k0 hy) (rg_val0 (by decide)) dX1_isAtEnd_9 ?_
  refine pr_join (c := ((in_sk σ) 0 4) < ((in_sk σ) 0 3)) (J := 20) (st := []) (0 : Int32) (1 : Int32) inferInstance (fun kt kf => ?_) ?_
  · refine pr_icmp_lt hA 19 dX1_isAtEnd_12 (by decide) (fun c_12 => ?_) (fun c_12 => ?_)
    · refine pr_iconst hA (0) dX1_isAtEnd_19 (by decide) ?_
      exact kt c_12
    · refine pr_iconst hA (1) dX1_isAtEnd_15 (by decide) ?_
      refine pr_goto hA 20 dX1_isAtEnd_16 (by decide) ?_
      exact kf c_12
  · exact pr_ireturn hA rfl (pr_nb (by (repeat' split) <;> simp)) (Nat.zero_le _) (Nat.zero_le _) dX1_isAtEnd_20 ⟨rfl, rfl, rfl, rfl⟩

theorem fr_in_end {σ : pr_I}  {o : Nat} (hms : ∀ m ∈ ([0] : List Nat), o ≠ m) : in_end σ o = σ o := by
  unfold in_end
  simp only [List.mem_cons, List.not_mem_nil, or_false, forall_eq_or_imp, forall_eq] at hms
  rw [fr_in_sk (by simp only [List.mem_cons, List.not_mem_nil, or_false, forall_eq_or_imp, forall_eq]; omega)]

theorem inI_in_end {φ : pr_I} (h : in_I φ) : in_I (in_end φ) := inI_in_sk h
noncomputable def in_semi (σ : pr_I) : pr_I := (if (σ 0 3) ≤ (σ 0 4) then (in_fail σ (1 : Int32) (σ 0 4)) else (if (σ 1 ((σ 0 4).toNatClampNeg)) = (59 : Int32) then (pr_up σ 0 4 ((σ 0 4) + (1 : Int32))) else (in_fail σ (1 : Int32) (σ 0 4))))
set_option maxRecDepth 100000 in
set_option maxHeartbeats 400000 in
theorem c_in_semi {g : pr_C} {l : Launch} (hl : l.stackTraces = false) {T : pr_T} {I : pr_I} {L : pr_L} {y : Nat} {σ : pr_I}  (hy : pr_In T y) (hI : in_I σ) : pr_M g l 2 0 0 mX1_readSemicolon [.ref y] T (rg_put I y 2 σ) L (pr_R none T (rg_put I y 2 (in_semi σ)) L) pr_no := by
  refine pr_ofG (by decide) rfl hl (Nat.le_of_ble_eq_true rfl) (fun X hA hX hXn hXt => ?_)
  subst hX
  show pr_G g X mX1_readSemicolon.2.2.1 _ 0 0 0 [.ref y] [] T (rg_put I y 2 σ) L
  refine pr_aload_n hA dX1_readSemicolon_0 rfl ?_
  refine pr_getE (v := (σ 0 4)) hA f_X1_25 rfl (in_k0 hy) (rg_val0 (by decide)) dX1_readSemicolon_1 ?_
  refine pr_aload_n hA dX1_readSemicolon_4 rfl ?_
  refine pr_getE (v := (σ 0 3)) hA f_X1_22 rfl (in_k0 hy) (rg_val0 (by decide)) dX1_readSemicolon_5 ?_
  refine pr_icmp_ge hA 38 dX1_readSemicolon_8 (by decide) (fun c_8 => ?_) (fun c_8 => ?_)
  · refine pr_aload_n hA dX1_readSemicolon_38 rfl ?_
    refine pr_iconst hA (1) dX1_readSemicolon_39 (by decide) ?_
    refine pr_aload_n hA dX1_readSemicolon_40 rfl ?_
    refine pr_getE (v := (σ 0 4)) hA f_X1_25 rfl (in_k0 hy) (rg_val0 (by decide)) dX1_readSemicolon_41 ?_
    refine pr_callVv hA [.int (1 : Int32), .int (σ 0 4)] (c_in_fail (y := y) (σ := σ) (pr_hl hA) hy) v_X1_86 (in_k0 hy) (by decide) rfl rfl rfl (by decide) (Nat.zero_le _) (Nat.zero_le _) rfl (Nat.le_of_ble_eq_true rfl) dX1_readSemicolon_44 ?_
    exact pr_return hA rfl (Nat.zero_le _) (Nat.zero_le _) dX1_readSemicolon_47 ⟨rfl, rfl, (by simp only [in_semi, if_pos c_8]), rfl⟩
  · refine pr_aload_n hA dX1_readSemicolon_11 rfl ?_
    refine pr_getR hA f_X1_18 rfl (in_k0 hy) (in_f0_2 hy) dX1_readSemicolon_12 ?_
    refine pr_aload_n hA dX1_readSemicolon_15 rfl ?_
    refine pr_getE (v := (σ 0 4)) hA f_X1_25 rfl (in_k0 hy) (rg_val0 (by decide)) dX1_readSemicolon_16 ?_
    refine pr_baldE (v := (σ 1 ((σ 0 4).toNatClampNeg))) hA (in_k1 hy) (in_at hI c_8) (rg_val (by decide)) dX1_readSemicolon_19 ?_
    refine pr_bipush hA (59) dX1_readSemicolon_20 (by decide) ?_
    refine pr_icmp_ne hA 38 dX1_readSemicolon_22 (by decide) (fun c_22 => ?_) (fun c_22 => ?_)
    · refine pr_aload_n hA dX1_readSemicolon_38 rfl ?_
      refine pr_iconst hA (1) dX1_readSemicolon_39 (by decide) ?_
      refine pr_aload_n hA dX1_readSemicolon_40 rfl ?_
      refine pr_getE (v := (σ 0 4)) hA f_X1_25 rfl (in_k0 hy) (rg_val0 (by decide)) dX1_readSemicolon_41 ?_
      refine pr_callVv hA [.int (1 : Int32), .int (σ 0 4)] (c_in_fail (y := y) (σ := σ) (pr_hl hA) hy) v_X1_86 (in_k0 hy) (by decide) rfl rfl rfl (by decide) (Nat.zero_le _) (Nat.zero_le _) rfl (Nat.le_of_ble_eq_true rfl) dX1_readSemicolon_44 ?_
      exact pr_return hA rfl (Nat.zero_le _) (Nat.zero_le _) dX1_readSemicolon_47 ⟨rfl, rfl, (by simp only [in_semi, if_neg c_8, if_neg c_22]), rfl⟩
    · refine pr_aload_n hA dX1_readSemicolon_25 rfl ?_
      refine pr_dup hA dX1_readSemicolon_26 rfl ?_
      refine pr_getE (v := (σ 0 4)) hA f_X1_25 rfl (in_k0 hy) (rg_val0 (by decide)) dX1_readSemicolon_27 ?_
      refine pr_iconst hA (1) dX1_readSemicolon_30 (by decide) ?_
      refine pr_iadd hA dX1_readSemicolon_31 ?_
      refine pr_putE (I' := (rg_put I y 2 (pr_up σ 0 4 ((σ 0 4) + (1 : Int32))))) hA f_X1_25 rfl (in_k0 hy) (rg_up0 (by decide)) dX1_readSemicolon_32 ?_
      refine pr_goto hA 47 dX1_readSemicolon_35 (by decide) ?_
      exact pr_return hA rfl (Nat.zero_le _) (Nat.zero_le _) dX1_readSemicolon_47 ⟨rfl, rfl, (by simp only [in_semi, if_neg c_8, if_pos c_22]), rfl⟩

theorem fr_in_semi {σ : pr_I}  {o : Nat} (hms : ∀ m ∈ ([0] : List Nat), o ≠ m) : in_semi σ o = σ o := by
  unfold in_semi
  simp only [List.mem_cons, List.not_mem_nil, or_false, forall_eq_or_imp, forall_eq] at hms
  by_cases c_8 : (σ 0 3) ≤ (σ 0 4)
  · refine (congrFun (if_pos c_8) o).trans ?_
    rw [fr_in_fail (by simp only [List.mem_cons, List.not_mem_nil, or_false, forall_eq_or_imp, forall_eq]; omega)]
  · refine (congrFun (if_neg c_8) o).trans ?_
    by_cases c_22 : (σ 1 ((σ 0 4).toNatClampNeg)) = (59 : Int32)
    · refine (congrFun (if_pos c_22) o).trans ?_
      rw [pr_up_ne (by omega)]
    · refine (congrFun (if_neg c_22) o).trans ?_
      rw [fr_in_fail (by simp only [List.mem_cons, List.not_mem_nil, or_false, forall_eq_or_imp, forall_eq]; omega)]

theorem inI_in_semi {φ : pr_I} (h : in_I φ) : in_I (in_semi φ) := by
  unfold in_semi
  by_cases c : φ 0 3 ≤ φ 0 4
  · rw [if_pos c]; exact inI_in_fail h
  · rw [if_neg c]; split
    · exact in_I.up4 h (in_inc h c)
    · exact inI_in_fail h
noncomputable def in_rw_it16 (σ : pr_I) : Nat → pr_I × Int64
  | 0 => ((pr_up (in_sk σ) 0 5 ((in_sk σ) 0 4)), (0 : Int64))
  | k + 1 => (if (in_nb_r (in_rw_it16 σ k).1 (97 : Int32) (122 : Int32)) = 0 then ((in_rw_it16 σ k).1, ((in_rw_it16 σ k).2)) else ((pr_up (in_rw_it16 σ k).1 0 4 (((in_rw_it16 σ k).1 0 4) + (1 : Int32))), (if (6 : Int32) ≤ (nI k) then (0 : Int64) else ((((in_rw_it16 σ k).2) <<< (((8 : Int32)).toInt64 &&& 63)) ||| ((σ 1 (((in_rw_it16 σ k).1 0 4).toNatClampNeg))).toInt64))))
theorem fr_in_rw_it16 {σ : pr_I} {o : Nat} (hms : ∀ m ∈ ([0] : List Nat), o ≠ m) : ∀ {k : Nat}, (in_rw_it16 σ k).1 o = (pr_up (in_sk σ) 0 5 ((in_sk σ) 0 4)) o := by
  simp only [List.mem_cons, List.not_mem_nil, or_false, forall_eq_or_imp, forall_eq] at hms
  intro k
  induction k with
  | zero =>
    show (pr_up (in_sk σ) 0 5 ((in_sk σ) 0 4)) o = (pr_up (in_sk σ) 0 5 ((in_sk σ) 0 4)) o
    rfl
  | succ k ih =>
    by_cases c_31 : (in_nb_r (in_rw_it16 σ k).1 (97 : Int32) (122 : Int32)) = 0
    · refine (congrFun (congrArg (fun z : pr_I × Int64 => z.1) (if_pos c_31)) o).trans ?_
      show (in_rw_it16 σ k).1 o = (pr_up (in_sk σ) 0 5 ((in_sk σ) 0 4)) o
      rw [ih]
    · refine (congrFun (congrArg (fun z : pr_I × Int64 => z.1) (if_neg c_31)) o).trans ?_
      show (pr_up (in_rw_it16 σ k).1 0 4 (((in_rw_it16 σ k).1 0 4) + (1 : Int32))) o = (pr_up (in_sk σ) 0 5 ((in_sk σ) 0 4)) o
      rw [pr_up_ne (by omega), ih]

theorem st_in_rw_it16_31 {σ : pr_I} {k : Nat} (c_31 : (in_nb_r (in_rw_it16 σ k).1 (97 : Int32) (122 : Int32)) = 0) : ∀ j, in_rw_it16 σ (k + j) = in_rw_it16 σ k
  | 0 => rfl
  | j + 1 => by
    have ih := st_in_rw_it16_31 c_31 j
    show in_rw_it16 σ ((k + j) + 1) = in_rw_it16 σ k
    simp only [in_rw_it16, ih, if_pos c_31]
noncomputable def in_rw_r (σ : pr_I) : Int64 := (if ((in_rw_it16 σ (sl 700)).1 0 4) = ((in_rw_it16 σ (sl 700)).1 0 5) then ((in_rw_it16 σ (sl 700)).2) else ((in_rw_it16 σ (sl 700)).2))
noncomputable def in_rw (σ : pr_I) : pr_I := (if ((in_rw_it16 σ (sl 700)).1 0 4) = ((in_rw_it16 σ (sl 700)).1 0 5) then (in_fail (in_rw_it16 σ (sl 700)).1 (1 : Int32) ((in_rw_it16 σ (sl 700)).1 0 4)) else (in_rw_it16 σ (sl 700)).1)
theorem in_rw_I {σ : pr_I} (hI : in_I σ) : ∀ k, in_I (in_rw_it16 σ k).1
  | 0 => in_I.up5 (inI_in_sk hI)
  | k + 1 => by
    have ih := in_rw_I hI k
    simp only [in_rw_it16]
    split
    · exact ih
    · exact in_I.up4 ih (in_inc ih (in_nb_at (by assumption)))
set_option maxRecDepth 100000 in
set_option maxHeartbeats 400000 in
theorem c_in_rw {g : pr_C} {l : Launch} (hl : l.stackTraces = false) {T : pr_T} {I : pr_I} {L : pr_L} {y : Nat} {σ : pr_I}  (hy : pr_In T y) (hI : in_I σ) : pr_M g l 2 0 0 mX1_readWord [.ref y] T (rg_put I y 2 σ) L (pr_R (some (.long (in_rw_r σ))) T (rg_put I y 2 (in_rw σ)) L) pr_no := by
  refine pr_ofG (by decide) rfl hl (Nat.le_of_ble_eq_true rfl) (fun X hA hX hXn hXt => ?_)
  subst hX
  show pr_G g X mX1_readWord.2.2.1 _ 0 0 0 [.ref y, .null, .null, .null] [] T (rg_put I y 2 σ) L
  have hsl700 := sl_eq 700
  refine pr_aload_n hA dX1_readWord_0 rfl ?_
  refine pr_callVv hA [] (c_in_sk (y := y) (σ := σ) (pr_hl hA) hy hI) v_X1_127 (in_k0 hy) (by decide) rfl rfl rfl (by decide) (Nat.zero_le _) (Nat.zero_le _) rfl (Nat.le_of_ble_eq_true rfl) dX1_readWord_1 ?_
  refine pr_aload_n hA dX1_readWord_4 rfl ?_
  refine pr_aload_n hA dX1_readWord_5 rfl ?_
  refine pr_getE (v := ((in_sk σ) 0 4)) hA f_X1_25 rfl (in_k0 hy) (rg_val0 (by decide)) dX1_readWord_6 ?_
  refine pr_putE (I' := (rg_put I y 2 (pr_up (in_sk σ) 0 5 ((in_sk σ) 0 4)))) hA f_X1_28 rfl (in_k0 hy) (rg_up0 (by decide)) dX1_readWord_9 ?_
  refine pr_lconst hA 0 dX1_readWord_12 (by decide) ?_
  refine pr_lstore_n (ls' := [_, _, _, _]) hA dX1_readWord_13 (by decide) rfl ?_
  refine pr_iconst hA (nI 0) dX1_readWord_14 (by decide) ?_
  refine pr_istore_n (ls' := [_, _, _, _]) hA dX1_readWord_15 (by decide) rfl ?_
  have lp16 : ∀ (j k : Nat), (sl 700) - k = j → k ≤ (sl 700) → pr_G g X mX1_readWord.2.2.1 (pr_MQ g X (pr_R (some (.long (in_rw_r σ))) T (rg_put I y 2 (in_rw σ)) L) pr_no 0 0) 0 0 16 [.ref y, .long ((in_rw_it16 σ k).2), .null, .int (nI k)] [] T (rg_put I y 2 (in_rw_it16 σ k).1) L := by
    intro j
    induction j using Nat.strongRecOn with | ind j ih16 =>
    intro k hj16 hk16
    refine pr_iload_n hA dX1_readWord_16 rfl ?_
    refine pr_sipush hA (nI 700) dX1_readWord_17 (by decide) ?_
    refine pr_icmp_ge hA 76 dX1_readWord_20 (by decide) (fun c_20 => ?_) (fun c_20 => ?_)
    · have n_20 : 700 ≤ k := (nI_leI (by omega) (by omega)).mp c_20
      have hex : (sl 700) = k := by omega
      subst hex
      refine pr_aload_n hA dX1_readWord_76 rfl ?_
      refine pr_getE (v := ((in_rw_it16 σ (sl 700)).1 0 4)) hA f_X1_25 rfl (in_k0 hy) (rg_val0 (by decide)) dX1_readWord_77 ?_
      refine pr_aload_n hA dX1_readWord_80 rfl ?_
      refine pr_getE (v := ((in_rw_it16 σ (sl 700)).1 0 5)) hA f_X1_28 rfl (in_k0 hy) (rg_val0 (by decide)) dX1_readWord_81 ?_
      refine pr_icmp_ne hA 96 dX1_readWord_84 (by decide) (fun c_84 => ?_) (fun c_84 => ?_)
      · refine pr_lload_n hA dX1_readWord_96 rfl ?_
        exact pr_lreturn hA rfl (Nat.zero_le _) (Nat.zero_le _) dX1_readWord_97 ⟨(by simp only [in_rw_r, if_neg c_84]), rfl, (by simp only [in_rw, if_neg c_84]), rfl⟩
      · refine pr_aload_n hA dX1_readWord_87 rfl ?_
        refine pr_iconst hA (1) dX1_readWord_88 (by decide) ?_
        refine pr_aload_n hA dX1_readWord_89 rfl ?_
        refine pr_getE (v := ((in_rw_it16 σ (sl 700)).1 0 4)) hA f_X1_25 rfl (in_k0 hy) (rg_val0 (by decide)) dX1_readWord_90 ?_
        refine pr_callVv hA [.int (1 : Int32), .int ((in_rw_it16 σ (sl 700)).1 0 4)] (c_in_fail (y := y) (σ := (in_rw_it16 σ (sl 700)).1) (pr_hl hA) hy) v_X1_86 (in_k0 hy) (by decide) rfl rfl rfl (by decide) (Nat.zero_le _) (Nat.zero_le _) rfl (Nat.le_of_ble_eq_true rfl) dX1_readWord_93 ?_
        refine pr_lload_n hA dX1_readWord_96 rfl ?_
        exact pr_lreturn hA rfl (Nat.zero_le _) (Nat.zero_le _) dX1_readWord_97 ⟨(by simp only [in_rw_r, if_pos c_84]), rfl, (by simp only [in_rw, if_pos c_84]), rfl⟩
    · have n_20 : ¬ 700 ≤ k := fun q => c_20 ((nI_leI (by omega) (by omega)).mpr q)
      refine pr_aload_n hA dX1_readWord_23 rfl ?_
      refine pr_bipush hA (97) dX1_readWord_24 (by decide) ?_
      refine pr_bipush hA (122) dX1_readWord_26 (by decide) ?_
      refine pr_callVi hA [.int (97 : Int32), .int (122 : Int32)] (c_in_nb (y := y) (σ := (in_rw_it16 σ k).1) (pr_hl hA) hy (in_rw_I hI k)) v_X1_130 (in_k0 hy) (by decide) rfl rfl rfl (by decide) (Nat.zero_le _) (Nat.zero_le _) rfl (Nat.le_of_ble_eq_true rfl) dX1_readWord_28 ?_
      refine pr_if_eq hA 76 dX1_readWord_31 (by decide) (fun c_31 => ?_) (fun c_31 => ?_)
      · have hst := st_in_rw_it16_31 c_31 ((sl 700) - k)
        rw [show k + ((sl 700) - k) = (sl 700) from by omega] at hst
        refine pr_lessL (ls' := [.ref y, .long ((in_rw_it16 σ k).2), .null, .null]) ⟨.inr rfl, .inr rfl, .inl rfl, .inl rfl, trivial⟩ ?_
        rw [← hst]
        refine pr_aload_n hA dX1_readWord_76 rfl ?_
        refine pr_getE (v := ((in_rw_it16 σ (sl 700)).1 0 4)) hA f_X1_25 rfl (in_k0 hy) (rg_val0 (by decide)) dX1_readWord_77 ?_
        refine pr_aload_n hA dX1_readWord_80 rfl ?_
        refine pr_getE (v := ((in_rw_it16 σ (sl 700)).1 0 5)) hA f_X1_28 rfl (in_k0 hy) (rg_val0 (by decide)) dX1_readWord_81 ?_
        refine pr_icmp_ne hA 96 dX1_readWord_84 (by decide) (fun c_84 => ?_) (fun c_84 => ?_)
        · refine pr_lload_n hA dX1_readWord_96 rfl ?_
          exact pr_lreturn hA rfl (Nat.zero_le _) (Nat.zero_le _) dX1_readWord_97 ⟨(by simp only [in_rw_r, if_neg c_84]), rfl, (by simp only [in_rw, if_neg c_84]), rfl⟩
        · refine pr_aload_n hA dX1_readWord_87 rfl ?_
          refine pr_iconst hA (1) dX1_readWord_88 (by decide) ?_
          refine pr_aload_n hA dX1_readWord_89 rfl ?_
          refine pr_getE (v := ((in_rw_it16 σ (sl 700)).1 0 4)) hA f_X1_25 rfl (in_k0 hy) (rg_val0 (by decide)) dX1_readWord_90 ?_
          refine pr_callVv hA [.int (1 : Int32), .int ((in_rw_it16 σ (sl 700)).1 0 4)] (c_in_fail (y := y) (σ := (in_rw_it16 σ (sl 700)).1) (pr_hl hA) hy) v_X1_86 (in_k0 hy) (by decide) rfl rfl rfl (by decide) (Nat.zero_le _) (Nat.zero_le _) rfl (Nat.le_of_ble_eq_true rfl) dX1_readWord_93 ?_
          refine pr_lload_n hA dX1_readWord_96 rfl ?_
          exact pr_lreturn hA rfl (Nat.zero_le _) (Nat.zero_le _) dX1_readWord_97 ⟨(by simp only [in_rw_r, if_pos c_84]), rfl, (by simp only [in_rw, if_pos c_84]), rfl⟩
      · refine pr_iload_n hA dX1_readWord_34 rfl ?_
        refine pr_bipush hA (6) dX1_readWord_35 (by decide) ?_
        refine pr_joinL (c := (6 : Int32) ≤ (nI k)) (J := 59) (st := []) (0 : Int64) ((((in_rw_it16 σ k).2) <<< (((8 : Int32)).toInt64 &&& 63)) ||| ((σ 1 (((in_rw_it16 σ k).1 0 4).toNatClampNeg))).toInt64) inferInstance (fun kt kf => ?_) ?_
        · refine pr_icmp_ge hA 58 dX1_readWord_37 (by decide) (fun c_37 => ?_) (fun c_37 => ?_)
          · refine pr_lconst hA 0 dX1_readWord_58 (by decide) ?_
            exact kt c_37
          · refine pr_lload_n hA dX1_readWord_40 rfl ?_
            refine pr_bipush hA (8) dX1_readWord_41 (by decide) ?_
            refine pr_lshl hA dX1_readWord_43 ?_
            refine pr_aload_n hA dX1_readWord_44 rfl ?_
            refine pr_getR hA f_X1_18 rfl (in_k0 hy) (in_f0_2 hy) dX1_readWord_45 ?_
            refine pr_aload_n hA dX1_readWord_48 rfl ?_
            refine pr_getE (v := ((in_rw_it16 σ k).1 0 4)) hA f_X1_25 rfl (in_k0 hy) (rg_val0 (by decide)) dX1_readWord_49 ?_
            refine pr_baldE (v := (σ 1 (((in_rw_it16 σ k).1 0 4).toNatClampNeg))) hA (in_k1 hy) (in_at (in_rw_I hI k) (in_nb_at c_31)) ((rg_val (by decide)).trans ((congrFun (fr_in_rw_it16 (by decide)) _).trans ((pr_upv (by decide)).trans (congrFun (fr_in_sk (by decide)) _)))) dX1_readWord_52 ?_
            refine pr_i2l hA dX1_readWord_53 ?_
            refine pr_lor hA dX1_readWord_54 ?_
            refine pr_goto hA 59 dX1_readWord_55 (by decide) ?_
            exact kf c_37
        · refine pr_lstore_n (ls' := [_, _, _, _]) hA dX1_readWord_59 (by decide) rfl ?_
          refine pr_aload_n hA dX1_readWord_60 rfl ?_
          refine pr_dup hA dX1_readWord_61 rfl ?_
          refine pr_getE (v := ((in_rw_it16 σ k).1 0 4)) hA f_X1_25 rfl (in_k0 hy) (rg_val0 (by decide)) dX1_readWord_62 ?_
          refine pr_iconst hA (1) dX1_readWord_65 (by decide) ?_
          refine pr_iadd hA dX1_readWord_66 ?_
          refine pr_putE (I' := (rg_put I y 2 (pr_up (in_rw_it16 σ k).1 0 4 (((in_rw_it16 σ k).1 0 4) + (1 : Int32))))) hA f_X1_25 rfl (in_k0 hy) (rg_up0 (by decide)) dX1_readWord_67 ?_
          refine pr_iinc (ls' := [_, _, _, _]) hA (nI (k + 1)) dX1_readWord_70 (by decide) rfl (nI_inc _) rfl ?_
          refine pr_goto hA 16 dX1_readWord_73 (by decide) ?_
          have hb := ih16 ((sl 700) - (k + 1)) (by omega) (k + 1) rfl (by omega)
          simp only [in_rw_it16, if_neg c_31] at hb
          exact hb
  exact (lp16 ((sl 700) - 0) 0 rfl (by omega))

theorem fr_in_rw {σ : pr_I}  {o : Nat} (hms : ∀ m ∈ ([0] : List Nat), o ≠ m) : in_rw σ o = σ o := by
  unfold in_rw
  simp only [List.mem_cons, List.not_mem_nil, or_false, forall_eq_or_imp, forall_eq] at hms
  by_cases c_84 : ((in_rw_it16 σ (sl 700)).1 0 4) = ((in_rw_it16 σ (sl 700)).1 0 5)
  · refine (congrFun (if_pos c_84) o).trans ?_
    rw [fr_in_fail (by simp only [List.mem_cons, List.not_mem_nil, or_false, forall_eq_or_imp, forall_eq]; omega), fr_in_rw_it16 (by simp only [List.mem_cons, List.not_mem_nil, or_false, forall_eq_or_imp, forall_eq]; omega), pr_up_ne (by omega), fr_in_sk (by simp only [List.mem_cons, List.not_mem_nil, or_false, forall_eq_or_imp, forall_eq]; omega)]
  · refine (congrFun (if_neg c_84) o).trans ?_
    rw [fr_in_rw_it16 (by simp only [List.mem_cons, List.not_mem_nil, or_false, forall_eq_or_imp, forall_eq]; omega), pr_up_ne (by omega), fr_in_sk (by simp only [List.mem_cons, List.not_mem_nil, or_false, forall_eq_or_imp, forall_eq]; omega)]

theorem inI_in_rw {φ : pr_I} (h : in_I φ) : in_I (in_rw φ) := by
  unfold in_rw
  by_cases c : (in_rw_it16 φ (sl 700)).1 0 4 = (in_rw_it16 φ (sl 700)).1 0 5
  · rw [if_pos c]; exact inI_in_fail (in_rw_I h _)
  · rw [if_neg c]; exact in_rw_I h _
noncomputable def in_rn_it15 (σ : pr_I) (a : Int32) (b : Int32) : Nat → pr_I × Int32
  | 0 => ((in_sk σ), (0 : Int32))
  | k + 1 => (if (in_nb_r (in_rn_it15 σ a b k).1 (48 : Int32) (57 : Int32)) = 0 then ((in_rn_it15 σ a b k).1, ((in_rn_it15 σ a b k).2)) else ((pr_up (in_rn_it15 σ a b k).1 0 4 (((in_rn_it15 σ a b k).1 0 4) + (1 : Int32))), (if (1000000 : Int32) < (((((in_rn_it15 σ a b k).2) * (10 : Int32)) + (σ 1 (((in_rn_it15 σ a b k).1 0 4).toNatClampNeg))) - (48 : Int32)) then (1000000 : Int32) else (((((in_rn_it15 σ a b k).2) * (10 : Int32)) + (σ 1 (((in_rn_it15 σ a b k).1 0 4).toNatClampNeg))) - (48 : Int32)))))
theorem fr_in_rn_it15 {σ : pr_I} {a : Int32} {b : Int32} {o : Nat} (hms : ∀ m ∈ ([0] : List Nat), o ≠ m) : ∀ {k : Nat}, (in_rn_it15 σ a b k).1 o = (in_sk σ) o := by
  simp only [List.mem_cons, List.not_mem_nil, or_false, forall_eq_or_imp, forall_eq] at hms
  intro k
  induction k with
  | zero =>
    show (in_sk σ) o = (in_sk σ) o
    rfl
  | succ k ih =>
    by_cases c_31 : (in_nb_r (in_rn_it15 σ a b k).1 (48 : Int32) (57 : Int32)) = 0
    · refine (congrFun (congrArg (fun z : pr_I × Int32 => z.1) (if_pos c_31)) o).trans ?_
      show (in_rn_it15 σ a b k).1 o = (in_sk σ) o
      rw [ih]
    · refine (congrFun (congrArg (fun z : pr_I × Int32 => z.1) (if_neg c_31)) o).trans ?_
      show (pr_up (in_rn_it15 σ a b k).1 0 4 (((in_rn_it15 σ a b k).1 0 4) + (1 : Int32))) o = (in_sk σ) o
      rw [pr_up_ne (by omega), ih]

theorem st_in_rn_it15_31 {σ : pr_I} {a : Int32} {b : Int32} {k : Nat} (c_31 : (in_nb_r (in_rn_it15 σ a b k).1 (48 : Int32) (57 : Int32)) = 0) : ∀ j, in_rn_it15 σ a b (k + j) = in_rn_it15 σ a b k
  | 0 => rfl
  | j + 1 => by
    have ih := st_in_rn_it15_31 c_31 j
    show in_rn_it15 σ a b ((k + j) + 1) = in_rn_it15 σ a b k
    simp only [in_rn_it15, ih, if_pos c_31]
noncomputable def in_rn_r (σ : pr_I) (a : Int32) (b : Int32) : Int32 := (if ((in_rn_it15 σ a b (sl 700)).1 0 4) = ((in_sk σ) 0 4) then ((in_rn_it15 σ a b (sl 700)).2) else (if ((in_rn_it15 σ a b (sl 700)).2) < a then ((in_rn_it15 σ a b (sl 700)).2) else (if ((in_rn_it15 σ a b (sl 700)).2) ≤ b then ((in_rn_it15 σ a b (sl 700)).2) else ((in_rn_it15 σ a b (sl 700)).2))))
noncomputable def in_rn (σ : pr_I) (a : Int32) (b : Int32) : pr_I := (if ((in_rn_it15 σ a b (sl 700)).1 0 4) = ((in_sk σ) 0 4) then (in_fail (in_rn_it15 σ a b (sl 700)).1 (1 : Int32) ((in_rn_it15 σ a b (sl 700)).1 0 4)) else (if ((in_rn_it15 σ a b (sl 700)).2) < a then (in_fail (in_rn_it15 σ a b (sl 700)).1 (2 : Int32) ((in_sk σ) 0 4)) else (if ((in_rn_it15 σ a b (sl 700)).2) ≤ b then (in_rn_it15 σ a b (sl 700)).1 else (in_fail (in_rn_it15 σ a b (sl 700)).1 (2 : Int32) ((in_sk σ) 0 4)))))
theorem in_rn_I {σ : pr_I} {a b : Int32} (hI : in_I σ) : ∀ k, in_I (in_rn_it15 σ a b k).1
  | 0 => inI_in_sk hI
  | k + 1 => by
    have ih := in_rn_I (a := a) (b := b) hI k
    simp only [in_rn_it15]
    split
    · exact ih
    · exact in_I.up4 ih (in_inc ih (in_nb_at (by assumption)))
set_option maxRecDepth 100000 in
set_option maxHeartbeats 400000 in
theorem c_in_rn {g : pr_C} {l : Launch} (hl : l.stackTraces = false) {T : pr_T} {I : pr_I} {L : pr_L} {y : Nat} {σ : pr_I} {a : Int32} {b : Int32} (hy : pr_In T y) (hI : in_I σ) : pr_M g l 2 0 0 mX1_readNumber [.ref y, .int a, .int b] T (rg_put I y 2 σ) L (pr_R (some (.int (in_rn_r σ a b))) T (rg_put I y 2 (in_rn σ a b)) L) pr_no := by
  refine pr_ofG (by decide) rfl hl (Nat.le_of_ble_eq_true rfl) (fun X hA hX hXn hXt => ?_)
  subst hX
  show pr_G g X mX1_readNumber.2.2.1 _ 0 0 0 [.ref y, .int a, .int b, .null, .null, .null] [] T (rg_put I y 2 σ) L
  have hsl700 := sl_eq 700
  refine pr_aload_n hA dX1_readNumber_0 rfl ?_
  refine pr_callVv hA [] (c_in_sk (y := y) (σ := σ) (pr_hl hA) hy hI) v_X1_127 (in_k0 hy) (by decide) rfl rfl rfl (by decide) (Nat.zero_le _) (Nat.zero_le _) rfl (Nat.le_of_ble_eq_true rfl) dX1_readNumber_1 ?_
  refine pr_aload_n hA dX1_readNumber_4 rfl ?_
  refine pr_getE (v := ((in_sk σ) 0 4)) hA f_X1_25 rfl (in_k0 hy) (rg_val0 (by decide)) dX1_readNumber_5 ?_
  refine pr_istore_n (ls' := [_, _, _, _, _, _]) hA dX1_readNumber_8 (by decide) rfl ?_
  refine pr_iconst hA (0) dX1_readNumber_9 (by decide) ?_
  refine pr_istore (ls' := [_, _, _, _, _, _]) hA dX1_readNumber_10 (by decide) rfl ?_
  refine pr_iconst hA (nI 0) dX1_readNumber_12 (by decide) ?_
  refine pr_istore (ls' := [_, _, _, _, _, _]) hA dX1_readNumber_13 (by decide) rfl ?_
  have lp15 : ∀ (j k : Nat), (sl 700) - k = j → k ≤ (sl 700) → pr_G g X mX1_readNumber.2.2.1 (pr_MQ g X (pr_R (some (.int (in_rn_r σ a b))) T (rg_put I y 2 (in_rn σ a b)) L) pr_no 0 0) 0 0 15 [.ref y, .int a, .int b, .int ((in_sk σ) 0 4), .int ((in_rn_it15 σ a b k).2), .int (nI k)] [] T (rg_put I y 2 (in_rn_it15 σ a b k).1) L := by
    intro j
    induction j using Nat.strongRecOn with | ind j ih15 =>
    intro k hj15 hk15
    refine pr_iload hA dX1_readNumber_15 rfl ?_
    refine pr_sipush hA (nI 700) dX1_readNumber_17 (by decide) ?_
    refine pr_icmp_ge hA 75 dX1_readNumber_20 (by decide) (fun c_20 => ?_) (fun c_20 => ?_)
    · have n_20 : 700 ≤ k := (nI_leI (by omega) (by omega)).mp c_20
      have hex : (sl 700) = k := by omega
      subst hex
      refine pr_aload_n hA dX1_readNumber_75 rfl ?_
      refine pr_getE (v := ((in_rn_it15 σ a b (sl 700)).1 0 4)) hA f_X1_25 rfl (in_k0 hy) (rg_val0 (by decide)) dX1_readNumber_76 ?_
      refine pr_iload_n hA dX1_readNumber_79 rfl ?_
      refine pr_icmp_ne hA 95 dX1_readNumber_80 (by decide) (fun c_80 => ?_) (fun c_80 => ?_)
      · refine pr_iload hA dX1_readNumber_95 rfl ?_
        refine pr_iload_n hA dX1_readNumber_97 rfl ?_
        refine pr_icmp_lt hA 107 dX1_readNumber_98 (by decide) (fun c_98 => ?_) (fun c_98 => ?_)
        · refine pr_aload_n hA dX1_readNumber_107 rfl ?_
          refine pr_iconst hA (2) dX1_readNumber_108 (by decide) ?_
          refine pr_iload_n hA dX1_readNumber_109 rfl ?_
          refine pr_callVv hA [.int (2 : Int32), .int ((in_sk σ) 0 4)] (c_in_fail (y := y) (σ := (in_rn_it15 σ a b (sl 700)).1) (pr_hl hA) hy) v_X1_86 (in_k0 hy) (by decide) rfl rfl rfl (by decide) (Nat.zero_le _) (Nat.zero_le _) rfl (Nat.le_of_ble_eq_true rfl) dX1_readNumber_110 ?_
          refine pr_iload hA dX1_readNumber_113 rfl ?_
          exact pr_ireturn hA rfl rfl (Nat.zero_le _) (Nat.zero_le _) dX1_readNumber_115 ⟨(by simp only [in_rn_r, if_neg c_80, if_pos c_98]), rfl, (by simp only [in_rn, if_neg c_80, if_pos c_98]), rfl⟩
        · refine pr_iload hA dX1_readNumber_101 rfl ?_
          refine pr_iload_n hA dX1_readNumber_103 rfl ?_
          refine pr_icmp_le hA 113 dX1_readNumber_104 (by decide) (fun c_104 => ?_) (fun c_104 => ?_)
          · refine pr_iload hA dX1_readNumber_113 rfl ?_
            exact pr_ireturn hA rfl rfl (Nat.zero_le _) (Nat.zero_le _) dX1_readNumber_115 ⟨(by simp only [in_rn_r, if_neg c_80, if_neg c_98, if_pos c_104]), rfl, (by simp only [in_rn, if_neg c_80, if_neg c_98, if_pos c_104]), rfl⟩
          · refine pr_aload_n hA dX1_readNumber_107 rfl ?_
            refine pr_iconst hA (2) dX1_readNumber_108 (by decide) ?_
            refine pr_iload_n hA dX1_readNumber_109 rfl ?_
            refine pr_callVv hA [.int (2 : Int32), .int ((in_sk σ) 0 4)] (c_in_fail (y := y) (σ := (in_rn_it15 σ a b (sl 700)).1) (pr_hl hA) hy) v_X1_86 (in_k0 hy) (by decide) rfl rfl rfl (by decide) (Nat.zero_le _) (Nat.zero_le _) rfl (Nat.le_of_ble_eq_true rfl) dX1_readNumber_110 ?_
            refine pr_iload hA dX1_readNumber_113 rfl ?_
            exact pr_ireturn hA rfl rfl (Nat.zero_le _) (Nat.zero_le _) dX1_readNumber_115 ⟨(by simp only [in_rn_r, if_neg c_80, if_neg c_98, if_neg c_104]), rfl, (by simp only [in_rn, if_neg c_80, if_neg c_98, if_neg c_104]), rfl⟩
      · refine pr_aload_n hA dX1_readNumber_83 rfl ?_
        refine pr_iconst hA (1) dX1_readNumber_84 (by decide) ?_
        refine pr_aload_n hA dX1_readNumber_85 rfl ?_
        refine pr_getE (v := ((in_rn_it15 σ a b (sl 700)).1 0 4)) hA f_X1_25 rfl (in_k0 hy) (rg_val0 (by decide)) dX1_readNumber_86 ?_
        refine pr_callVv hA [.int (1 : Int32), .int ((in_rn_it15 σ a b (sl 700)).1 0 4)] (c_in_fail (y := y) (σ := (in_rn_it15 σ a b (sl 700)).1) (pr_hl hA) hy) v_X1_86 (in_k0 hy) (by decide) rfl rfl rfl (by decide) (Nat.zero_le _) (Nat.zero_le _) rfl (Nat.le_of_ble_eq_true rfl) dX1_readNumber_89 ?_
        refine pr_goto hA 113 dX1_readNumber_92 (by decide) ?_
        refine pr_iload hA dX1_readNumber_113 rfl ?_
        exact pr_ireturn hA rfl rfl (Nat.zero_le _) (Nat.zero_le _) dX1_readNumber_115 ⟨(by simp only [in_rn_r, if_pos c_80]), rfl, (by simp only [in_rn, if_pos c_80]), rfl⟩
    · have n_20 : ¬ 700 ≤ k := fun q => c_20 ((nI_leI (by omega) (by omega)).mpr q)
      refine pr_aload_n hA dX1_readNumber_23 rfl ?_
      refine pr_bipush hA (48) dX1_readNumber_24 (by decide) ?_
      refine pr_bipush hA (57) dX1_readNumber_26 (by decide) ?_
      refine pr_callVi hA [.int (48 : Int32), .int (57 : Int32)] (c_in_nb (y := y) (σ := (in_rn_it15 σ a b k).1) (pr_hl hA) hy (in_rn_I hI k)) v_X1_130 (in_k0 hy) (by decide) rfl rfl rfl (by decide) (Nat.zero_le _) (Nat.zero_le _) rfl (Nat.le_of_ble_eq_true rfl) dX1_readNumber_28 ?_
      refine pr_if_eq hA 75 dX1_readNumber_31 (by decide) (fun c_31 => ?_) (fun c_31 => ?_)
      · have hst := st_in_rn_it15_31 c_31 ((sl 700) - k)
        rw [show k + ((sl 700) - k) = (sl 700) from by omega] at hst
        refine pr_lessL (ls' := [.ref y, .int a, .int b, .int ((in_sk σ) 0 4), .int ((in_rn_it15 σ a b k).2), .null]) ⟨.inr rfl, .inr rfl, .inr rfl, .inr rfl, .inr rfl, .inl rfl, trivial⟩ ?_
        rw [← hst]
        refine pr_aload_n hA dX1_readNumber_75 rfl ?_
        refine pr_getE (v := ((in_rn_it15 σ a b (sl 700)).1 0 4)) hA f_X1_25 rfl (in_k0 hy) (rg_val0 (by decide)) dX1_readNumber_76 ?_
        refine pr_iload_n hA dX1_readNumber_79 rfl ?_
        refine pr_icmp_ne hA 95 dX1_readNumber_80 (by decide) (fun c_80 => ?_) (fun c_80 => ?_)
        · refine pr_iload hA dX1_readNumber_95 rfl ?_
          refine pr_iload_n hA dX1_readNumber_97 rfl ?_
          refine pr_icmp_lt hA 107 dX1_readNumber_98 (by decide) (fun c_98 => ?_) (fun c_98 => ?_)
          · refine pr_aload_n hA dX1_readNumber_107 rfl ?_
            refine pr_iconst hA (2) dX1_readNumber_108 (by decide) ?_
            refine pr_iload_n hA dX1_readNumber_109 rfl ?_
            refine pr_callVv hA [.int (2 : Int32), .int ((in_sk σ) 0 4)] (c_in_fail (y := y) (σ := (in_rn_it15 σ a b (sl 700)).1) (pr_hl hA) hy) v_X1_86 (in_k0 hy) (by decide) rfl rfl rfl (by decide) (Nat.zero_le _) (Nat.zero_le _) rfl (Nat.le_of_ble_eq_true rfl) dX1_readNumber_110 ?_
            refine pr_iload hA dX1_readNumber_113 rfl ?_
            exact pr_ireturn hA rfl rfl (Nat.zero_le _) (Nat.zero_le _) dX1_readNumber_115 ⟨(by simp only [in_rn_r, if_neg c_80, if_pos c_98]), rfl, (by simp only [in_rn, if_neg c_80, if_pos c_98]), rfl⟩
          · refine pr_iload hA dX1_readNumber_101 rfl ?_
            refine pr_iload_n hA dX1_readNumber_103 rfl ?_
            refine pr_icmp_le hA 113 dX1_readNumber_104 (by decide) (fun c_104 => ?_) (fun c_104 => ?_)
            · refine pr_iload hA dX1_readNumber_113 rfl ?_
              exact pr_ireturn hA rfl rfl (Nat.zero_le _) (Nat.zero_le _) dX1_readNumber_115 ⟨(by simp only [in_rn_r, if_neg c_80, if_neg c_98, if_pos c_104]), rfl, (by simp only [in_rn, if_neg c_80, if_neg c_98, if_pos c_104]), rfl⟩
            · refine pr_aload_n hA dX1_readNumber_107 rfl ?_
              refine pr_iconst hA (2) dX1_readNumber_108 (by decide) ?_
              refine pr_iload_n hA dX1_readNumber_109 rfl ?_
              refine pr_callVv hA [.int (2 : Int32), .int ((in_sk σ) 0 4)] (c_in_fail (y := y) (σ := (in_rn_it15 σ a b (sl 700)).1) (pr_hl hA) hy) v_X1_86 (in_k0 hy) (by decide) rfl rfl rfl (by decide) (Nat.zero_le _) (Nat.zero_le _) rfl (Nat.le_of_ble_eq_true rfl) dX1_readNumber_110 ?_
              refine pr_iload hA dX1_readNumber_113 rfl ?_
              exact pr_ireturn hA rfl rfl (Nat.zero_le _) (Nat.zero_le _) dX1_readNumber_115 ⟨(by simp only [in_rn_r, if_neg c_80, if_neg c_98, if_neg c_104]), rfl, (by simp only [in_rn, if_neg c_80, if_neg c_98, if_neg c_104]), rfl⟩
        · refine pr_aload_n hA dX1_readNumber_83 rfl ?_
          refine pr_iconst hA (1) dX1_readNumber_84 (by decide) ?_
          refine pr_aload_n hA dX1_readNumber_85 rfl ?_
          refine pr_getE (v := ((in_rn_it15 σ a b (sl 700)).1 0 4)) hA f_X1_25 rfl (in_k0 hy) (rg_val0 (by decide)) dX1_readNumber_86 ?_
          refine pr_callVv hA [.int (1 : Int32), .int ((in_rn_it15 σ a b (sl 700)).1 0 4)] (c_in_fail (y := y) (σ := (in_rn_it15 σ a b (sl 700)).1) (pr_hl hA) hy) v_X1_86 (in_k0 hy) (by decide) rfl rfl rfl (by decide) (Nat.zero_le _) (Nat.zero_le _) rfl (Nat.le_of_ble_eq_true rfl) dX1_readNumber_89 ?_
          refine pr_goto hA 113 dX1_readNumber_92 (by decide) ?_
          refine pr_iload hA dX1_readNumber_113 rfl ?_
          exact pr_ireturn hA rfl rfl (Nat.zero_le _) (Nat.zero_le _) dX1_readNumber_115 ⟨(by simp only [in_rn_r, if_pos c_80]), rfl, (by simp only [in_rn, if_pos c_80]), rfl⟩
      · refine pr_iload hA dX1_readNumber_34 rfl ?_
        refine pr_bipush hA (10) dX1_readNumber_36 (by decide) ?_
        refine pr_imul hA dX1_readNumber_38 ?_
        refine pr_aload_n hA dX1_readNumber_39 rfl ?_
        refine pr_getR hA f_X1_18 rfl (in_k0 hy) (in_f0_2 hy) dX1_readNumber_40 ?_
        refine pr_aload_n hA dX1_readNumber_43 rfl ?_
        refine pr_getE (v := ((in_rn_it15 σ a b k).1 0 4)) hA f_X1_25 rfl (in_k0 hy) (rg_val0 (by decide)) dX1_readNumber_44 ?_
        refine pr_baldE (v := (σ 1 (((in_rn_it15 σ a b k).1 0 4).toNatClampNeg))) hA (in_k1 hy) (in_at (in_rn_I hI k) (in_nb_at c_31)) ((rg_val (by decide)).trans ((congrFun (fr_in_rn_it15 (by decide)) _).trans (congrFun (fr_in_sk (by decide)) _))) dX1_readNumber_47 ?_
        refine pr_iadd hA dX1_readNumber_48 ?_
        refine pr_bipush hA (48) dX1_readNumber_49 (by decide) ?_
        refine pr_isub hA dX1_readNumber_51 ?_
        refine pr_ldc hA kK_X1_134 dX1_readNumber_52 ?_
        refine pr_mmin hA rfl ⟨kM_X1_135, kT_J9_min_7cf53, kZ_J9, kO_J9_min_7cf53⟩ (by decide) (Nat.zero_le _) (Nat.zero_le _) (Nat.le_of_ble_eq_true rfl) dX1_readNumber_54 ?_
        refine pr_istore (ls' := [_, _, _, _, _, _]) hA dX1_readNumber_57 (by decide) rfl ?_
        refine pr_aload_n hA dX1_readNumber_59 rfl ?_
        refine pr_dup hA dX1_readNumber_60 rfl ?_
        refine pr_getE (v := ((in_rn_it15 σ a b k).1 0 4)) hA f_X1_25 rfl (in_k0 hy) (rg_val0 (by decide)) dX1_readNumber_61 ?_
        refine pr_iconst hA (1) dX1_readNumber_64 (by decide) ?_
        refine pr_iadd hA dX1_readNumber_65 ?_
        refine pr_putE (I' := (rg_put I y 2 (pr_up (in_rn_it15 σ a b k).1 0 4 (((in_rn_it15 σ a b k).1 0 4) + (1 : Int32))))) hA f_X1_25 rfl (in_k0 hy) (rg_up0 (by decide)) dX1_readNumber_66 ?_
        refine pr_iinc (ls' := [_, _, _, _, _, _]) hA (nI (k + 1)) dX1_readNumber_69 (by decide) rfl (nI_inc _) rfl ?_
        refine pr_goto hA 15 dX1_readNumber_72 (by decide) ?_
        have hb := ih15 ((sl 700) - (k + 1)) (by omega) (k + 1) rfl (by omega)
        simp only [in_rn_it15, if_neg c_31] at hb
        exact hb
  exact (lp15 ((sl 700) - 0) 0 rfl (by omega))

theorem fr_in_rn {σ : pr_I} {a : Int32} {b : Int32} {o : Nat} (hms : ∀ m ∈ ([0] : List Nat), o ≠ m) : in_rn σ a b o = σ o := by
  unfold in_rn
  simp only [List.mem_cons, List.not_mem_nil, or_false, forall_eq_or_imp, forall_eq] at hms
  by_cases c_80 : ((in_rn_it15 σ a b (sl 700)).1 0 4) = ((in_sk σ) 0 4)
  · refine (congrFun (if_pos c_80) o).trans ?_
    rw [fr_in_fail (by simp only [List.mem_cons, List.not_mem_nil, or_false, forall_eq_or_imp, forall_eq]; omega), fr_in_rn_it15 (by simp only [List.mem_cons, List.not_mem_nil, or_false, forall_eq_or_imp, forall_eq]; omega), fr_in_sk (by simp only [List.mem_cons, List.not_mem_nil, or_false, forall_eq_or_imp, forall_eq]; omega)]
  · refine (congrFun (if_neg c_80) o).trans ?_
    by_cases c_98 : ((in_rn_it15 σ a b (sl 700)).2) < a
    · refine (congrFun (if_pos c_98) o).trans ?_
      rw [fr_in_fail (by simp only [List.mem_cons, List.not_mem_nil, or_false, forall_eq_or_imp, forall_eq]; omega), fr_in_rn_it15 (by simp only [List.mem_cons, List.not_mem_nil, or_false, forall_eq_or_imp, forall_eq]; omega), fr_in_sk (by simp only [List.mem_cons, List.not_mem_nil, or_false, forall_eq_or_imp, forall_eq]; omega)]
    · refine (congrFun (if_neg c_98) o).trans ?_
      by_cases c_104 : ((in_rn_it15 σ a b (sl 700)).2) ≤ b
      · refine (congrFun (if_pos c_104) o).trans ?_
        rw [fr_in_rn_it15 (by simp only [List.mem_cons, List.not_mem_nil, or_false, forall_eq_or_imp, forall_eq]; omega), fr_in_sk (by simp only [List.mem_cons, List.not_mem_nil, or_false, forall_eq_or_imp, forall_eq]; omega)]
      · refine (congrFun (if_neg c_104) o).trans ?_
        rw [fr_in_fail (by simp only [List.mem_cons, List.not_mem_nil, or_false, forall_eq_or_imp, forall_eq]; omega), fr_in_rn_it15 (by simp only [List.mem_cons, List.not_mem_nil, or_false, forall_eq_or_imp, forall_eq]; omega), fr_in_sk (by simp only [List.mem_cons, List.not_mem_nil, or_false, forall_eq_or_imp, forall_eq]; omega)]

theorem inI_in_rn {φ : pr_I} {a b : Int32} (h : in_I φ) : in_I (in_rn φ a b) := by
  have h1 := in_rn_I (a := a) (b := b) h (sl 700)
  unfold in_rn
  generalize (in_rn_it15 φ a b (sl 700)).1 = ψ at h1 ⊢
  generalize (in_rn_it15 φ a b (sl 700)).2 = z
  (repeat' split) <;> first | exact h1 | exact inI_in_fail h1
noncomputable def in_tn_it4 (σ : pr_I) : Nat → Int64
  | 0 => (0 : Int64)
  | k + 1 => (if (σ 0 3) ≤ (nI k) then (in_tn_it4 σ k) else (((in_tn_it4 σ k) <<< (((8 : Int32)).toInt64 &&& 63)) ||| (((σ 1 k) &&& (255 : Int32))).toInt64))
theorem st_in_tn_it4_9 {σ : pr_I} {k : Nat} (c_9 : (σ 0 3) ≤ (nI k)) : ∀ j, k + j < 2 ^ 31 → in_tn_it4 σ (k + j) = in_tn_it4 σ k
  | 0, _ => rfl
  | j + 1, hj => by
    have ih := st_in_tn_it4_9 c_9 j (by omega)
    have c2_9 : (σ 0 3) ≤ (nI (k + j)) := Int32.le_trans c_9 ((nI_leI (by omega) (by omega)).mpr (by omega))
    show in_tn_it4 σ ((k + j) + 1) = in_tn_it4 σ k
    simp only [in_tn_it4, ih, if_pos c2_9]
noncomputable def in_tn_r (σ : pr_I) : Int64 := (if (if (σ 0 3) ≤ (6 : Int32) then (nI 0) else (1 : Int32)) = 0 then (in_tn_it4 σ (sl 6)) else (0 : Int64))
noncomputable def in_tn (σ : pr_I) : pr_I := (pr_up σ 0 3 (0 : Int32))
theorem fr_in_tn {σ : pr_I}  {o : Nat} (hms : ∀ m ∈ ([0] : List Nat), o ≠ m) : in_tn σ o = σ o := by
  unfold in_tn
  simp only [List.mem_cons, List.not_mem_nil, or_false, forall_eq_or_imp, forall_eq] at hms
  rw [pr_up_ne (by omega)]

theorem inI_in_tn {φ : pr_I} (h : in_I φ) : in_I (in_tn φ) := in_I.up3 h (nI_vin (k := 0) (by decide) (by decide))
noncomputable def in_ad_it6 (σ : pr_I) (q : Int64) : Nat → Int32 × Int32
  | 0 => ((0 : Int32), (56 : Int32))
  | k + 1 => (if ((in_ad_it6 σ q k).2) < 0 then (((in_ad_it6 σ q k).1), ((in_ad_it6 σ q k).2)) else ((((in_ad_it6 σ q k).1) + (if (lg_cmp ((q.toUInt64 >>> ((((in_ad_it6 σ q k).2)).toInt64.toUInt64 &&& Int64.toUInt64 63)).toInt64 &&& (255 : Int64)) (0 : Int64)) = 0 then (0 : Int32) else (1 : Int32))), (((in_ad_it6 σ q k).2) + Int32.ofInt (-8))))
noncomputable def in_ad_it6_e (σ : pr_I) (q : Int64) (k : Nat) : Bool := (if ((in_ad_it6 σ q k).2) < 0 then true else false)
theorem st_in_ad_it6_8 {σ : pr_I} {q : Int64} {k : Nat} (c_8 : ((in_ad_it6 σ q k).2) < 0) : ∀ j, in_ad_it6 σ q (k + j) = in_ad_it6 σ q k
  | 0 => rfl
  | j + 1 => by
    have ih := st_in_ad_it6_8 c_8 j
    show in_ad_it6 σ q ((k + j) + 1) = in_ad_it6 σ q k
    simp only [in_ad_it6, ih, if_pos c_8]
noncomputable def in_ad_it57 (σ : pr_I) (q : Int64) : Nat → pr_I × Int32
  | 0 => (σ, (56 : Int32))
  | k + 1 => (if ((in_ad_it57 σ q k).2) < 0 then ((in_ad_it57 σ q k).1, ((in_ad_it57 σ q k).2)) else (if (((q.toUInt64 >>> ((((in_ad_it57 σ q k).2)).toInt64.toUInt64 &&& Int64.toUInt64 63)).toInt64).toInt32).toInt8.toInt32 = 0 then ((in_ad_it57 σ q k).1, (((in_ad_it57 σ q k).2) + Int32.ofInt (-8))) else (if (700 : Int32) ≤ ((in_ad_it57 σ q k).1 0 3) then ((in_ad_it57 σ q k).1, (((in_ad_it57 σ q k).2) + Int32.ofInt (-8))) else ((pr_up (pr_up (in_ad_it57 σ q k).1 1 (((in_ad_it57 σ q k).1 0 3).toNatClampNeg) (vp_nar .byte ((((q.toUInt64 >>> ((((in_ad_it57 σ q k).2)).toInt64.toUInt64 &&& Int64.toUInt64 63)).toInt64).toInt32).toInt8.toInt32))) 0 3 (((in_ad_it57 σ q k).1 0 3) + (1 : Int32))), (((in_ad_it57 σ q k).2) + Int32.ofInt (-8))))))
theorem fr_in_ad_it57 {σ : pr_I} {q : Int64} {o : Nat} (hms : ∀ m ∈ ([0, 1] : List Nat), o ≠ m) : ∀ {k : Nat}, (in_ad_it57 σ q k).1 o = σ o := by
  simp only [List.mem_cons, List.not_mem_nil, or_false, forall_eq_or_imp, forall_eq] at hms
  intro k
  induction k with
  | zero =>
    show σ o = σ o
    rfl
  | succ k ih =>
    by_cases c_59 : ((in_ad_it57 σ q k).2) < 0
    · refine (congrFun (congrArg (fun z : pr_I × Int32 => z.1) (if_pos c_59)) o).trans ?_
      show (in_ad_it57 σ q k).1 o = σ o
      rw [ih]
    · refine (congrFun (congrArg (fun z : pr_I × Int32 => z.1) (if_neg c_59)) o).trans ?_
      by_cases c_72 : (((q.toUInt64 >>> ((((in_ad_it57 σ q k).2)).toInt64.toUInt64 &&& Int64.toUInt64 63)).toInt64).toInt32).toInt8.toInt32 = 0
      · refine (congrFun (congrArg (fun z : pr_I × Int32 => z.1) (if_pos c_72)) o).trans ?_
        show (in_ad_it57 σ q k).1 o = σ o
        rw [ih]
      · refine (congrFun (congrArg (fun z : pr_I × Int32 => z.1) (if_neg c_72)) o).trans ?_
        by_cases c_82 : (700 : Int32) ≤ ((in_ad_it57 σ q k).1 0 3)
        · refine (congrFun (congrArg (fun z : pr_I × Int32 => z.1) (if_pos c_82)) o).trans ?_
          show (in_ad_it57 σ q k).1 o = σ o
          rw [ih]
        · refine (congrFun (congrArg (fun z : pr_I × Int32 => z.1) (if_neg c_82)) o).trans ?_
          show (pr_up (pr_up (in_ad_it57 σ q k).1 1 (((in_ad_it57 σ q k).1 0 3).toNatClampNeg) (vp_nar .byte ((((q.toUInt64 >>> ((((in_ad_it57 σ q k).2)).toInt64.toUInt64 &&& Int64.toUInt64 63)).toInt64).toInt32).toInt8.toInt32))) 0 3 (((in_ad_it57 σ q k).1 0 3) + (1 : Int32))) o = σ o
          rw [pr_up_ne (by omega), pr_up_ne (by omega), ih]

noncomputable def in_ad_it57_e (σ : pr_I) (q : Int64) (k : Nat) : Bool := (if ((in_ad_it57 σ q k).2) < 0 then true else (if (((q.toUInt64 >>> ((((in_ad_it57 σ q k).2)).toInt64.toUInt64 &&& Int64.toUInt64 63)).toInt64).toInt32).toInt8.toInt32 = 0 then false else (if (700 : Int32) ≤ ((in_ad_it57 σ q k).1 0 3) then false else false)))
theorem st_in_ad_it57_59 {σ : pr_I} {q : Int64} {k : Nat} (c_59 : ((in_ad_it57 σ q k).2) < 0) : ∀ j, in_ad_it57 σ q (k + j) = in_ad_it57 σ q k
  | 0 => rfl
  | j + 1 => by
    have ih := st_in_ad_it57_59 c_59 j
    show in_ad_it57 σ q ((k + j) + 1) = in_ad_it57 σ q k
    simp only [in_ad_it57, ih, if_pos c_59]
noncomputable def in_ad_r (σ : pr_I) (q : Int64) : Int32 := (if ((σ 0 3) + ((in_ad_it6 σ q (sl 8)).1)) ≤ (700 : Int32) then ((in_ad_it57 σ q (sl 8)).1 0 3) else ((-2) : Int32))
noncomputable def in_ad (σ : pr_I) (q : Int64) : pr_I := (if ((σ 0 3) + ((in_ad_it6 σ q (sl 8)).1)) ≤ (700 : Int32) then (in_ad_it57 σ q (sl 8)).1 else σ)
noncomputable def ad_sh (k : Nat) : Int32 := Int32.ofInt (56 - 8 * (k : Int))
theorem ad_sh_s : ∀ k, k < 8 → ¬ ad_sh k < 0 ∧ ad_sh k + Int32.ofInt (-8) = ad_sh (k + 1) := by unfold ad_sh; decide
theorem ad_sh_8 : ad_sh 8 < 0 := by unfold ad_sh; decide
theorem ad_s1 {σ : pr_I} {q : Int64} : ∀ k, k ≤ 8 → (in_ad_it6 σ q k).2 = ad_sh k
  | 0, _ => by unfold ad_sh; rfl
  | k + 1, h => by
    have ih := ad_s1 (σ := σ) (q := q) k (by omega)
    simp only [in_ad_it6, ih, if_neg (ad_sh_s k (by omega)).1, (ad_sh_s k (by omega)).2, apply_ite Prod.snd, ite_self]
theorem ad_e1 {σ : pr_I} {q : Int64} : in_ad_it6_e σ q (sl 8) = true := by
  rw [sl_eq]; unfold in_ad_it6_e; rw [ad_s1 8 (by omega), if_pos ad_sh_8]
theorem ad_s2 {σ : pr_I} {q : Int64} : ∀ k, k ≤ 8 → (in_ad_it57 σ q k).2 = ad_sh k
  | 0, _ => by unfold ad_sh; rfl
  | k + 1, h => by
    have ih := ad_s2 (σ := σ) (q := q) k (by omega)
    simp only [in_ad_it57, ih, if_neg (ad_sh_s k (by omega)).1, (ad_sh_s k (by omega)).2, apply_ite Prod.snd, ite_self]
theorem ad_e2 {σ : pr_I} {q : Int64} : in_ad_it57_e σ q (sl 8) = true := by
  rw [sl_eq]; unfold in_ad_it57_e
  (repeat' split) <;> first | rfl | (rename_i c _; exact absurd ad_sh_8 (by rw [ad_s2 8 (by omega)] at c; exact c)) | (rename_i c _ _; exact absurd ad_sh_8 (by rw [ad_s2 8 (by omega)] at c; exact c)) | (rename_i c; exact absurd ad_sh_8 (by rw [ad_s2 8 (by omega)] at c; exact c))
theorem vp_700 {a : Int32} (ha : vp_in a 701) (c : ¬ (700 : Int32) ≤ a) : vp_in a 700 ∧ vp_in (a + 1) 701 := by
  obtain ⟨i, hi, rfl⟩ := vp_in_of ha (by decide)
  have : ¬ 700 ≤ i := fun q => c ((nI_leI (a := 700) (by omega) (by omega)).mpr q)
  exact ⟨nI_vin (by omega) (by decide), by rw [nI_1]; exact nI_vin (by omega) (by decide)⟩
theorem in_ad_I {σ : pr_I} {q : Int64} (hI : in_I σ) : ∀ k, in_I (in_ad_it57 σ q k).1
  | 0 => hI
  | k + 1 => by
    have ih := in_ad_I (q := q) hI k
    simp only [in_ad_it57]
    generalize in_ad_it57 σ q k = z at ih ⊢
    (repeat' split) <;> first | exact ih | exact in_I.up3 (in_I.upt ih) (vp_700 ih.1 (by assumption)).2
set_option maxRecDepth 100000 in
set_option maxHeartbeats 400000 in
theorem c_in_ad {g : pr_C} {l : Launch} (hl : l.stackTraces = false) {T : pr_T} {I : pr_I} {L : pr_L} {y : Nat} {σ : pr_I} {q : Int64} (hy : pr_In T y) (hI : in_I σ) : pr_M g l 1 0 0 mX1_add [.ref y, .long q] T (rg_put I y 2 σ) L (pr_R (some (.int (in_ad_r σ q))) T (rg_put I y 2 (in_ad σ q)) L) pr_no := by
  refine pr_ofG (by decide) rfl hl (Nat.le_of_ble_eq_true rfl) (fun X hA hX hXn hXt => ?_)
  subst hX
  show pr_G g X mX1_add.2.2.1 _ 0 0 0 [.ref y, .long q, .null, .null, .null, .null] [] T (rg_put I y 2 σ) L
  have hsl8 := sl_eq 8
  refine pr_iconst hA (0) dX1_add_0 (by decide) ?_
  refine pr_istore_n (ls' := [_, _, _, _, _, _]) hA dX1_add_1 (by decide) rfl ?_
  refine pr_bipush hA (56) dX1_add_2 (by decide) ?_
  refine pr_istore (ls' := [_, _, _, _, _, _]) hA dX1_add_4 (by decide) rfl ?_
  have lp6 : ∀ (j k : Nat), (sl 8) - k = j → k ≤ (sl 8) → pr_G g X mX1_add.2.2.1 (pr_MQ g X (pr_R (some (.int (in_ad_r σ q))) T (rg_put I y 2 (in_ad σ q)) L) pr_no 0 0) 0 0 6 [.ref y, .long q, .null, .int ((in_ad_it6 σ q k).1), .int ((in_ad_it6 σ q k).2), .null] [] T (rg_put I y 2 σ) L := by
    intro j
    induction j using Nat.strongRecOn with | ind j ih6 =>
    intro k hj6 hk6
    refine pr_iload hA dX1_add_6 rfl ?_
    refine pr_if_lt hA 38 dX1_add_8 (by decide) (fun c_8 => ?_) (fun c_8 => ?_)
    · have hst := st_in_ad_it6_8 c_8 ((sl 8) - k)
      rw [show k + ((sl 8) - k) = (sl 8) from by omega] at hst
      refine pr_lessL (ls' := [.ref y, .long q, .null, .int ((in_ad_it6 σ q k).1), .int ((in_ad_it6 σ q k).2), .null]) ⟨.inr rfl, .inr rfl, .inl rfl, .inr rfl, .inr rfl, .inl rfl, trivial⟩ ?_
      rw [← hst]
      refine pr_aload_n hA dX1_add_38 rfl ?_
      refine pr_getE (v := (σ 0 3)) hA f_X1_22 rfl (in_k0 hy) (rg_val0 (by decide)) dX1_add_39 ?_
      refine pr_iload_n hA dX1_add_42 rfl ?_
      refine pr_iadd hA dX1_add_43 ?_
      refine pr_sipush hA (700) dX1_add_44 (by decide) ?_
      refine pr_icmp_le hA 53 dX1_add_47 (by decide) (fun c_47 => ?_) (fun c_47 => ?_)
      · refine pr_bipush hA (56) dX1_add_53 (by decide) ?_
        refine pr_istore (ls' := [_, _, _, _, _, _]) hA dX1_add_55 (by decide) rfl ?_
        have lp57 : ∀ (j k : Nat), (sl 8) - k = j → k ≤ (sl 8) → pr_G g X mX1_add.2.2.1 (pr_MQ g X (pr_R (some (.int (in_ad_r σ q))) T (rg_put I y 2 (in_ad σ q)) L) pr_no 0 0) 0 0 57 [.ref y, .long q, .null, .int ((in_ad_it6 σ q (sl 8)).1), .int ((in_ad_it57 σ q k).2), .null] [] T (rg_put I y 2 (in_ad_it57 σ q k).1) L := by
          intro j
          induction j using Nat.strongRecOn with | ind j ih57 =>
          intro k hj57 hk57
          refine pr_iload hA dX1_add_57 rfl ?_
          refine pr_if_lt hA 112 dX1_add_59 (by decide) (fun c_59 => ?_) (fun c_59 => ?_)
          · have hst := st_in_ad_it57_59 c_59 ((sl 8) - k)
            rw [show k + ((sl 8) - k) = (sl 8) from by omega] at hst
            refine pr_lessL (ls' := [.ref y, .long q, .null, .int ((in_ad_it6 σ q (sl 8)).1), .int ((in_ad_it57 σ q k).2), .null]) ⟨.inr rfl, .inr rfl, .inl rfl, .inr rfl, .inr rfl, .inl rfl, trivial⟩ ?_
            rw [← hst]
            refine pr_aload_n hA dX1_add_112 rfl ?_
            refine pr_getE (v := ((in_ad_it57 σ q (sl 8)).1 0 3)) hA f_X1_22 rfl (in_k0 hy) (rg_val0 (by decide)) dX1_add_113 ?_
            exact pr_ireturn hA rfl rfl (Nat.zero_le _) (Nat.zero_le _) dX1_add_116 ⟨(by simp only [in_ad_r, if_pos c_47]), rfl, (by simp only [in_ad, if_pos c_47]), rfl⟩
          · refine pr_lload_n hA dX1_add_62 rfl ?_
            refine pr_iload hA dX1_add_63 rfl ?_
            refine pr_lushr hA dX1_add_65 ?_
            refine pr_l2i hA dX1_add_66 ?_
            refine pr_i2b hA dX1_add_67 ?_
            refine pr_istore (ls' := [_, _, _, _, _, _]) hA dX1_add_68 (by decide) rfl ?_
            refine pr_iload hA dX1_add_70 rfl ?_
            refine pr_if_eq hA 106 dX1_add_72 (by decide) (fun c_72 => ?_) (fun c_72 => ?_)
            · refine pr_iinc (ls' := [_, _, _, _, _, _]) hA (((in_ad_it57 σ q k).2) + Int32.ofInt (-8)) dX1_add_106 (by decide) rfl rfl rfl ?_
              refine pr_goto hA 57 dX1_add_109 (by decide) ?_
              have hlt : k < (sl 8) := by
                rcases Nat.lt_or_ge k (sl 8) with hlt0 | hlt0
                · exact hlt0
                · have e : k = (sl 8) := by omega
                  exact absurd (ad_e2 (σ := σ) (q := q)) (by rw [← e]; simp only [in_ad_it57_e, if_neg c_59, if_pos c_72]; decide)
              have hb := ih57 ((sl 8) - (k + 1)) (by omega) (k + 1) rfl (by omega)
              simp only [in_ad_it57, if_neg c_59, if_pos c_72] at hb
              exact pr_lessL (ls' := [.ref y, .long q, .null, .int ((in_ad_it6 σ q (sl 8)).1), .int (((in_ad_it57 σ q k).2) + Int32.ofInt (-8)), .null]) ⟨.inr rfl, .inr rfl, .inl rfl, .inr rfl, .inr rfl, .inl rfl, trivial⟩ hb
            · refine pr_aload_n hA dX1_add_75 rfl ?_
              refine pr_getE (v := ((in_ad_it57 σ q k).1 0 3)) hA f_X1_22 rfl (in_k0 hy) (rg_val0 (by decide)) dX1_add_76 ?_
              refine pr_sipush hA (700) dX1_add_79 (by decide) ?_
              refine pr_icmp_ge hA 106 dX1_add_82 (by decide) (fun c_82 => ?_) (fun c_82 => ?_)
              · refine pr_iinc (ls' := [_, _, _, _, _, _]) hA (((in_ad_it57 σ q k).2) + Int32.ofInt (-8)) dX1_add_106 (by decide) rfl rfl rfl ?_
                refine pr_goto hA 57 dX1_add_109 (by decide) ?_
                have hlt : k < (sl 8) := by
                  rcases Nat.lt_or_ge k (sl 8) with hlt0 | hlt0
                  · exact hlt0
                  · have e : k = (sl 8) := by omega
                    exact absurd (ad_e2 (σ := σ) (q := q)) (by rw [← e]; simp only [in_ad_it57_e, if_neg c_59, if_neg c_72, if_pos c_82]; decide)
                have hb := ih57 ((sl 8) - (k + 1)) (by omega) (k + 1) rfl (by omega)
                simp only [in_ad_it57, if_neg c_59, if_neg c_72, if_pos c_82] at hb
                exact pr_lessL (ls' := [.ref y, .long q, .null, .int ((in_ad_it6 σ q (sl 8)).1), .int (((in_ad_it57 σ q k).2) + Int32.ofInt (-8)), .null]) ⟨.inr rfl, .inr rfl, .inl rfl, .inr rfl, .inr rfl, .inl rfl, trivial⟩ hb
              · refine pr_aload_n hA dX1_add_85 rfl ?_
                refine pr_getR hA f_X1_18 rfl (in_k0 hy) (in_f0_2 hy) dX1_add_86 ?_
                refine pr_aload_n hA dX1_add_89 rfl ?_
                refine pr_getE (v := ((in_ad_it57 σ q k).1 0 3)) hA f_X1_22 rfl (in_k0 hy) (rg_val0 (by decide)) dX1_add_90 ?_
                refine pr_iload hA dX1_add_93 rfl ?_
                refine pr_bastE (I' := (rg_put I y 2 (pr_up (in_ad_it57 σ q k).1 1 (((in_ad_it57 σ q k).1 0 3).toNatClampNeg) (vp_nar .byte ((((q.toUInt64 >>> ((((in_ad_it57 σ q k).2)).toInt64.toUInt64 &&& Int64.toUInt64 63)).toInt64).toInt32).toInt8.toInt32))))) hA (in_k1 hy) (vp_700 (in_ad_I hI k).1 c_82).1 (rg_up (by decide)) dX1_add_95 ?_
                refine pr_aload_n hA dX1_add_96 rfl ?_
                refine pr_dup hA dX1_add_97 rfl ?_
                refine pr_getE (v := ((in_ad_it57 σ q k).1 0 3)) hA f_X1_22 rfl (in_k0 hy) ((rg_val0 (by decide)).trans (pr_upv (by decide))) dX1_add_98 ?_
                refine pr_iconst hA (1) dX1_add_101 (by decide) ?_
                refine pr_iadd hA dX1_add_102 ?_
                refine pr_putE (I' := (rg_put I y 2 (pr_up (pr_up (in_ad_it57 σ q k).1 1 (((in_ad_it57 σ q k).1 0 3).toNatClampNeg) (vp_nar .byte ((((q.toUInt64 >>> ((((in_ad_it57 σ q k).2)).toInt64.toUInt64 &&& Int64.toUInt64 63)).toInt64).toInt32).toInt8.toInt32))) 0 3 (((in_ad_it57 σ q k).1 0 3) + (1 : Int32))))) hA f_X1_22 rfl (in_k0 hy) (rg_up0 (by decide)) dX1_add_103 ?_
                refine pr_iinc (ls' := [_, _, _, _, _, _]) hA (((in_ad_it57 σ q k).2) + Int32.ofInt (-8)) dX1_add_106 (by decide) rfl rfl rfl ?_
                refine pr_goto hA 57 dX1_add_109 (by decide) ?_
                have hlt : k < (sl 8) := by
                  rcases Nat.lt_or_ge k (sl 8) with hlt0 | hlt0
                  · exact hlt0
                  · have e : k = (sl 8) := by omega
                    exact absurd (ad_e2 (σ := σ) (q := q)) (by rw [← e]; simp only [in_ad_it57_e, if_neg c_59, if_neg c_72, if_neg c_82]; decide)
                have hb := ih57 ((sl 8) - (k + 1)) (by omega) (k + 1) rfl (by omega)
                simp only [in_ad_it57, if_neg c_59, if_neg c_72, if_neg c_82] at hb
                exact pr_lessL (ls' := [.ref y, .long q, .null, .int ((in_ad_it6 σ q (sl 8)).1), .int (((in_ad_it57 σ q k).2) + Int32.ofInt (-8)), .null]) ⟨.inr rfl, .inr rfl, .inl rfl, .inr rfl, .inr rfl, .inl rfl, trivial⟩ hb
        exact (lp57 ((sl 8) - 0) 0 rfl (by omega))
      · refine pr_bipush hA ((-2)) dX1_add_50 (by decide) ?_
        exact pr_ireturn hA rfl rfl (Nat.zero_le _) (Nat.zero_le _) dX1_add_52 ⟨(by simp only [in_ad_r, if_neg c_47]), rfl, (by simp only [in_ad, if_neg c_47]), rfl⟩
    · refine pr_iload_n hA dX1_add_11 rfl ?_
      refine pr_lload_n hA dX1_add_12 rfl ?_
      refine pr_iload hA dX1_add_13 rfl ?_
      refine pr_lushr hA dX1_add_15 ?_
      refine pr_ldc2 hA kK_X1_31 dX1_add_16 ?_
      refine pr_land hA dX1_add_19 ?_
      refine pr_lconst hA 0 dX1_add_20 (by decide) ?_
      refine pr_lcmp hA dX1_add_21 ?_
      refine pr_join (c := (lg_cmp ((q.toUInt64 >>> ((((in_ad_it6 σ q k).2)).toInt64.toUInt64 &&& Int64.toUInt64 63)).toInt64 &&& (255 : Int64)) (0 : Int64)) = 0) (J := 30) (st := [.int ((in_ad_it6 σ q k).1)]) (0 : Int32) (1 : Int32) inferInstance (fun kt kf => ?_) ?_
      · refine pr_if_eq hA 29 dX1_add_22 (by decide) (fun c_22 => ?_) (fun c_22 => ?_)
        · refine pr_iconst hA (0) dX1_add_29 (by decide) ?_
          exact kt c_22
        · refine pr_iconst hA (1) dX1_add_25 (by decide) ?_
          refine pr_goto hA 30 dX1_add_26 (by decide) ?_
          exact kf c_22
      · refine pr_iadd hA dX1_add_30 ?_
        refine pr_istore_n (ls' := [_, _, _, _, _, _]) hA dX1_add_31 (by decide) rfl ?_
        refine pr_iinc (ls' := [_, _, _, _, _, _]) hA (((in_ad_it6 σ q k).2) + Int32.ofInt (-8)) dX1_add_32 (by decide) rfl rfl rfl ?_
        refine pr_goto hA 6 dX1_add_35 (by decide) ?_
        have hlt : k < (sl 8) := by
          rcases Nat.lt_or_ge k (sl 8) with hlt0 | hlt0
          · exact hlt0
          · have e : k = (sl 8) := by omega
            exact absurd (ad_e1 (σ := σ) (q := q)) (by rw [← e]; simp only [in_ad_it6_e, if_neg c_8]; decide)
        have hb := ih6 ((sl 8) - (k + 1)) (by omega) (k + 1) rfl (by omega)
        simp only [in_ad_it6, if_neg c_8] at hb
        exact hb
  exact (lp6 ((sl 8) - 0) 0 rfl (by omega))

theorem fr_in_ad {σ : pr_I} {q : Int64} {o : Nat} (hms : ∀ m ∈ ([0, 1] : List Nat), o ≠ m) : in_ad σ q o = σ o := by
  unfold in_ad
  simp only [List.mem_cons, List.not_mem_nil, or_false, forall_eq_or_imp, forall_eq] at hms
  by_cases c_47 : ((σ 0 3) + ((in_ad_it6 σ q (sl 8)).1)) ≤ (700 : Int32)
  · refine (congrFun (if_pos c_47) o).trans ?_
    rw [fr_in_ad_it57 (by simp only [List.mem_cons, List.not_mem_nil, or_false, forall_eq_or_imp, forall_eq]; omega)]
  · refine (congrFun (if_neg c_47) o).trans ?_
    rfl

