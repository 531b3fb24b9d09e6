/-! CONSTRUCTORS, toString, charAt -/
def jMk (b : Nat) (tx : List Nat) (T : pr_T) (I : pr_I) (L : pr_L) : Option Value → pr_T → pr_I → pr_L → Prop := fun v' T' I' L' => v' = none ∧ jF T.1 b T I T' I' ∧ L' = L ∧ jB T.1 b tx 0 T' I'
theorem jB0 {b n : Nat} {T : pr_T} {I : pr_I} (hb : T.2.1 b = (8, 0)) (hlt : b < T.1) (hn : n ≤ 700) (hI3 : I b 3 = 0) : jF T.1 b T I (pr_upr (pr_new T 22 n) b 0 (some T.1)) (pr_up (pr_row I T.1 (fun _ => 0)) b 1 0) ∧ jB T.1 b [] 0 (pr_upr (pr_new T 22 n) b 0 (some T.1)) (pr_up (pr_row I T.1 (fun _ => 0)) b 1 0) := by
  refine ⟨⟨Nat.le_succ _, fun a ha hab => ⟨if_neg (by omega), ?_, by rw [pr_up_ne (by omega), pr_row_ne (by omega)]⟩⟩, T.1, n, Nat.le_succ _, Nat.lt_succ_of_lt hlt, Nat.le_refl _, Nat.lt_succ_self _, by omega, (if_neg (Nat.ne_of_lt hlt)).trans hb, if_pos ⟨rfl, rfl⟩, pr_upe, ?_, if_pos rfl, Nat.zero_le _, Nat.zero_le _, hn, fun j hj => ?_, fun j hj => absurd hj (Nat.not_lt_zero j), fun x hx => by cases hx⟩
  · funext j
    show (if a = b ∧ j = 0 then _ else if a = T.1 then none else T.2.2 a j) = T.2.2 a j
    rw [if_neg (fun q9 => hab q9.1), if_neg (by omega)]
  · rw [pr_upk (by decide), pr_row_ne (by omega)]; exact hI3
  · rw [pr_up_ne (by omega), pr_row_eq]; exact jfit0
theorem jnc : ∀ c, c < 128 → narrow .char (.int (nI c)) = .int (nI c) := by decide +kernel
set_option maxRecDepth 100000 in
set_option maxHeartbeats 400000 in
theorem c_jin {g : pr_C} {l : Launch} (hl : l.stackTraces = false) {T : pr_T} {I : pr_I} {L : pr_L} {b : Nat} (hb : T.2.1 b = (8, 0)) (hlt : b < T.1) (hI : I b = fun _ => 0) : pr_M g l 2 1 16 mJ5_init_d00df [.ref b, .int (nI 16)] T I L (jMk b [] T I L) pr_no := by
  refine pr_ofG (by decide) rfl hl (Nat.le_of_ble_eq_true rfl) (fun X hA hX hXn hXt => ?_)
  subst hX
  show pr_G g X mJ5_init_d00df.2.2.1 _ 0 0 0 [.ref b, .int (nI 16)] [] T I L
  refine pr_aload_n hA dJ5_init_d00df_0 rfl ?_
  refine pr_objInit hA rfl kM_J5_3 kI_Object__init____V kO_Object__init____V (by decide) (by decide) dJ5_init_d00df_1 ?_
  refine pr_getsC hA kF_J5_18 dJ5_init_d00df_4 ?_
  refine pr_if_eq hA 25 dJ5_init_d00df_7 (by decide) (fun c_7 => absurd c_7 (by decide)) (fun _ => ?_)
  refine pr_aload_n hA dJ5_init_d00df_10 rfl ?_
  refine pr_iload_n hA dJ5_init_d00df_11 rfl ?_
  refine pr_newB hA (16) kY_byte (nI_pos (by omega)) (nI_clamp (by omega)) (by omega) (by omega) (by omega) dJ5_init_d00df_12 ?_
  refine pr_putJR hA jC8 (by decide) rfl rfl rfl rfl jfk_v ((if_neg (Nat.ne_of_lt hlt)).trans hb) dJ5_init_d00df_14 ?_
  refine pr_aload_n hA dJ5_init_d00df_17 rfl ?_
  refine pr_iconst hA (0) dJ5_init_d00df_18 (by decide) ?_
  refine pr_putJI hA jC8 (by decide) rfl rfl rfl rfl jfk_c ((if_neg (Nat.ne_of_lt hlt)).trans hb) dJ5_init_d00df_19 ?_
  refine pr_goto hA 38 dJ5_init_d00df_22 (by decide) ?_
  obtain ⟨q1, q2⟩ := jB0 (n := 16) hb hlt (by decide) (congrFun hI 3)
  exact pr_return hA rfl (by omega) (by omega) dJ5_init_d00df_38 ⟨rfl, q1, rfl, q2⟩
set_option maxRecDepth 100000 in
set_option maxHeartbeats 400000 in
theorem c_jIN {g : pr_C} {l : Launch} (hl : l.stackTraces = false) {T : pr_T} {I : pr_I} {L : pr_L} {b : Nat} (hb : T.2.1 b = (8, 0)) (hlt : b < T.1) (hI : I b = fun _ => 0) : pr_M g l 3 1 16 mJ4_init_da8c8 [.ref b] T I L (jMk b [] T I L) pr_no := by
  refine pr_ofG (by decide) rfl hl (Nat.le_of_ble_eq_true rfl) (fun X hA hX hXn hXt => ?_)
  subst hX
  show pr_G g X mJ4_init_da8c8.2.2.1 _ 0 0 0 [.ref b] [] T I L
  refine pr_aload_n hA dJ4_init_da8c8_0 rfl ?_
  refine pr_bipush hA (nI 16) dJ4_init_da8c8_1 (by decide) ?_
  refine pr_callI hA rfl (As := [.int (nI 16)]) (c_jin (pr_hl hA) hb hlt hI) b_J4_1 kI_J5_init_d00df rfl rfl rfl (by decide) (by omega) (by omega) rfl (Nat.le_of_ble_eq_true rfl) dJ4_init_da8c8_3 (fun v9 T9 I9 L9 q9 => ?_)
  obtain ⟨rfl, hF, rfl, h⟩ := q9
  exact pr_return hA rfl (Nat.le_refl _) (Nat.le_refl _) dJ4_init_da8c8_6 ⟨rfl, hF, rfl, h⟩
set_option maxRecDepth 100000 in
set_option maxHeartbeats 400000 in
theorem c_jis {g : pr_C} {l : Launch} (hl : l.stackTraces = false) {T : pr_T} {I : pr_I} {L : pr_L} {b : Nat} (hb : T.2.1 b = (8, 0)) (hlt : b < T.1) (hI : I b = fun _ => 0) {s : Nat} {ty : List Nat} (hZ : jZ g T.1 s ty T I) (hy : ty.length ≤ 100) : pr_M g l 8 2 900 mJ5_init_a7421 [.ref b, .ref s] T I L (jMk b ty T I L) pr_no := by
  have hS := hZ.s
  refine pr_ofG (by decide) rfl hl (Nat.le_of_ble_eq_true rfl) (fun X hA hX hXn hXt => ?_)
  subst hX
  show pr_G g X mJ5_init_a7421.2.2.1 _ 0 0 0 [.ref b, .ref s, .null, .null, .null] [] T I L
  refine pr_aload_n hA dJ5_init_a7421_0 rfl ?_
  refine pr_objInit hA rfl kM_J5_3 kI_Object__init____V kO_Object__init____V (by decide) (by decide) dJ5_init_a7421_1 ?_
  refine pr_aload_n hA dJ5_init_a7421_4 rfl ?_
  refine pr_callX hA rfl (As := []) (n := 0) hS (c_jln (pr_hl hA) hS) v_J5_32 rfl rfl (by decide) (Nat.zero_le _) (Nat.zero_le _) rfl (Nat.le_of_ble_eq_true rfl) dJ5_init_a7421_5 (fun v9 T8 I8 L8 q9 => ?_)
  obtain ⟨rfl, e7, e8, e9⟩ := q9; obtain rfl := e7.symm; obtain rfl := e8.symm; obtain rfl := e9.symm
  show pr_G g X _ _ 0 0 8 _ (.int (nI ty.length) :: _) T I L
  refine pr_istore_n (ls' := [_, _, _, _, _]) hA dJ5_init_a7421_8 (by decide) rfl ?_
  refine pr_iload_n hA dJ5_init_a7421_9 rfl ?_
  refine pr_ldc hA kK_J5_38 dJ5_init_a7421_10 ?_
  refine pr_topE (z := nI 2147483631) (by decide) ?_
  refine pr_icmp_ge hA 22 dJ5_init_a7421_12 (by decide) (fun c_12 => absurd c_12 (fun q9 => by have := (nI_leI (by omega) (by omega)).mp q9; omega)) (fun _ => ?_)
  refine pr_iload_n hA dJ5_init_a7421_15 rfl ?_
  refine pr_bipush hA (nI 16) dJ5_init_a7421_16 (by decide) ?_
  refine pr_iadd hA dJ5_init_a7421_18 ?_
  refine pr_topE (z := nI (ty.length + 16)) (nI_add _ _) ?_
  refine pr_goto hA 24 dJ5_init_a7421_19 (by decide) ?_
  refine pr_istore_n (ls' := [_, _, _, _, _]) hA dJ5_init_a7421_24 (by decide) rfl ?_
  refine pr_aload_n hA dJ5_init_a7421_25 rfl ?_
  refine pr_callX hA rfl (As := []) (n := 0) hS (c_jcd (pr_hl hA) hS) v_J5_40 rfl rfl (by decide) (Nat.zero_le _) (Nat.zero_le _) rfl (Nat.le_of_ble_eq_true rfl) dJ5_init_a7421_26 (fun v9 T8 I8 L8 q9 => ?_)
  obtain ⟨rfl, e7, e8, e9⟩ := q9; obtain rfl := e7.symm; obtain rfl := e8.symm; obtain rfl := e9.symm
  show pr_G g X _ _ 0 0 29 _ (.int 0 :: _) T I L
  refine pr_istore (ls' := [_, _, _, _, _]) hA dJ5_init_a7421_29 (by decide) rfl ?_
  refine pr_aload_n hA dJ5_init_a7421_31 rfl ?_
  refine pr_iload hA dJ5_init_a7421_32 rfl ?_
  refine pr_putJI hA jC8 (by decide) rfl rfl rfl rfl jfk_c hb dJ5_init_a7421_34 ?_
  refine pr_gI (I' := I) (pr_up_id (by rw [hI])) ?_
  refine pr_aload_n hA dJ5_init_a7421_37 rfl ?_
  refine pr_iload hA dJ5_init_a7421_38 rfl ?_
  refine pr_if_ne hA 49 dJ5_init_a7421_40 (by decide) (fun c_40 => absurd rfl c_40) (fun _ => ?_)
  refine pr_iload_n hA dJ5_init_a7421_43 rfl ?_
  refine pr_newB hA (ty.length + 16) kY_byte (nI_pos (by omega)) (nI_clamp (by omega)) (by omega) (by omega) (by omega) dJ5_init_a7421_44 ?_
  refine pr_goto hA 53 dJ5_init_a7421_46 (by decide) ?_
  refine pr_putJR hA jC8 (by decide) rfl rfl rfl rfl jfk_v ((if_neg (Nat.ne_of_lt hlt)).trans hb) dJ5_init_a7421_53 ?_
  refine pr_aload_n hA dJ5_init_a7421_56 rfl ?_
  refine pr_aload_n hA dJ5_init_a7421_57 rfl ?_
  refine pr_gI (I' := pr_up (pr_row I T.1 (fun _ => 0)) b 1 0) (pr_up_id (by rw [pr_row_ne (by omega), hI])).symm ?_
  obtain ⟨q1, q2⟩ := jB0 (n := ty.length + 16) hb hlt (by omega) (congrFun hI 3)
  refine pr_callU (n := 1) hA rfl (As := [.ref s]) (c_jbr (pr_hl hA) q2 (hZ.to hb q1) (by show 0 + ty.length ≤ 300; omega)) ⟨kM_J5_43, rfl, by decide +kernel, ⟨_, _, _, kO_J5_append_cf1ce⟩, kI_J5_append_cf1ce, kZ_J4, kO_J4_append_cf1ce, kI_J4_append_cf1ce, by decide +kernel, by decide, rfl⟩ (List.mem_filter.mpr ⟨by decide +kernel, by decide +kernel⟩) ((if_neg (Nat.ne_of_lt hlt)).trans hb) rfl (by decide) (by omega) (by omega) rfl (Nat.le_of_ble_eq_true rfl) dJ5_init_a7421_58 (fun v9 T9 I9 L9 q9 => ?_)
  obtain ⟨rfl, hF, rfl, h⟩ := q9
  refine pr_pop hA dJ5_init_a7421_61 rfl ?_
  exact pr_return hA rfl (by omega) (by omega) dJ5_init_a7421_62 ⟨rfl, q1.trans hF, rfl, h⟩
set_option maxRecDepth 100000 in
set_option maxHeartbeats 400000 in
theorem c_jIS {g : pr_C} {l : Launch} (hl : l.stackTraces = false) {T : pr_T} {I : pr_I} {L : pr_L} {b : Nat} (hb : T.2.1 b = (8, 0)) (hlt : b < T.1) (hI : I b = fun _ => 0) {s : Nat} {ty : List Nat} (hZ : jZ g T.1 s ty T I) (hy : ty.length ≤ 100) : pr_M g l 9 2 900 mJ4_init_a7421 [.ref b, .ref s] T I L (jMk b ty T I L) pr_no := by
  refine pr_ofG (by decide) rfl hl (Nat.le_of_ble_eq_true rfl) (fun X hA hX hXn hXt => ?_)
  subst hX
  show pr_G g X mJ4_init_a7421.2.2.1 _ 0 0 0 [.ref b, .ref s] [] T I L
  refine pr_aload_n hA dJ4_init_a7421_0 rfl ?_
  refine pr_aload_n hA dJ4_init_a7421_1 rfl ?_
  refine pr_callI hA rfl (As := [.ref s]) (c_jis (pr_hl hA) hb hlt hI hZ hy) b_J4_7 kI_J5_init_a7421 rfl rfl rfl (by decide) (by omega) (by omega) rfl (Nat.le_of_ble_eq_true rfl) dJ4_init_a7421_2 (fun v9 T9 I9 L9 q9 => ?_)
  obtain ⟨rfl, hF, rfl, h⟩ := q9
  exact pr_return hA rfl (Nat.le_refl _) (Nat.le_refl _) dJ4_init_a7421_5 ⟨rfl, hF, rfl, h⟩
set_option maxRecDepth 100000 in
set_option maxHeartbeats 400000 in
theorem c_jck {g : pr_C} {l : Launch} (hl : l.stackTraces = false) {T : pr_T} {I : pr_I} {L : pr_L} {n : Nat} (hn : n ≤ 700) : pr_M g l 1 0 0 mJ7_checkLength_df160 [.int 0, .int (nI n)] T I L (pr_R none T I L) pr_no := by
  refine pr_ofG (by decide) rfl hl (Nat.le_of_ble_eq_true rfl) (fun X hA hX hXn hXt => ?_)
  subst hX
  show pr_G g X mJ7_checkLength_df160.2.2.1 _ 0 0 0 [.int 0, .int (nI n)] [] T I L
  refine pr_iload_n hA dJ7_checkLength_df160_0 rfl ?_
  refine pr_iload_n hA dJ7_checkLength_df160_1 rfl ?_
  refine pr_icmp_ge hA 37 dJ7_checkLength_df160_2 (by decide) (fun _ => ?_) (fun c_2 => absurd (nI_pos' (by omega)) c_2)
  exact pr_return hA rfl (Nat.zero_le _) (Nat.zero_le _) dJ7_checkLength_df160_37 ⟨rfl, rfl, rfl, rfl⟩
def jCp (u n : Nat) (T : pr_T) (I : pr_I) (L : pr_L) : Option Value → pr_T → pr_I → pr_L → Prop := fun v' T' I' L' => v' = some (.ref T.1) ∧ T' = pr_new T 22 n ∧ L' = L ∧ ∃ f, I' = pr_row I T.1 f ∧ ∀ j, j < n → f j = I u j
set_option maxRecDepth 100000 in
set_option maxHeartbeats 400000 in
theorem c_jcb {g : pr_C} {l : Launch} (hl : l.stackTraces = false) {T : pr_T} {I : pr_I} {L : pr_L} {u m n : Nat} (hu : T.2.1 u = (22, m)) (hlt : u < T.1) (hm : m ≤ 700) (hnm : n ≤ m) (hf : jBt m (I u)) : pr_M g l 2 1 700 mJ7_copyOfRangeByte_39247 [.ref u, .int 0, .int (nI n)] T I L (jCp u n T I L) pr_no := by
  refine pr_ofG (by decide) rfl hl (Nat.le_of_ble_eq_true rfl) (fun X hA hX hXn hXt => ?_)
  subst hX
  show pr_G g X mJ7_copyOfRangeByte_39247.2.2.1 _ 0 0 0 [.ref u, .int 0, .int (nI n), .null, .null] [] T I L
  refine pr_iload_n hA dJ7_copyOfRangeByte_39247_0 rfl ?_
  refine pr_iload_n hA dJ7_copyOfRangeByte_39247_1 rfl ?_
  refine pr_callS hA rfl (As := [.int 0, .int (nI n)]) (c_jck (pr_hl hA) (by omega)) s_J7_343 rfl (by decide) (Nat.zero_le _) (Nat.zero_le _) rfl (Nat.le_of_ble_eq_true rfl) dJ7_copyOfRangeByte_39247_2 (fun v9 T8 I8 L8 q9 => ?_) (fun _ _ _ _ q9 => q9.elim)
  obtain ⟨rfl, e7, e8, e9⟩ := q9; obtain rfl := e7.symm; obtain rfl := e8.symm; obtain rfl := e9.symm
  show pr_G g X _ _ 0 0 5 _ [] T I L
  refine pr_iload_n hA dJ7_copyOfRangeByte_39247_5 rfl ?_
  refine pr_iload_n hA dJ7_copyOfRangeByte_39247_6 rfl ?_
  refine pr_isub hA dJ7_copyOfRangeByte_39247_7 ?_
  refine pr_topE (z := nI n) (Int32.sub_zero _) ?_
  refine pr_istore_n (ls' := [_, _, _, _, _]) hA dJ7_copyOfRangeByte_39247_8 (by decide) rfl ?_
  refine pr_iload_n hA dJ7_copyOfRangeByte_39247_9 rfl ?_
  refine pr_newB hA (n) kY_byte (nI_pos (by omega)) (nI_clamp (by omega)) (by omega) (by omega) (by omega) dJ7_copyOfRangeByte_39247_10 ?_
  refine pr_astore (ls' := [_, _, _, _, _]) hA dJ7_copyOfRangeByte_39247_12 (by decide) rfl ?_
  refine pr_aload_n hA dJ7_copyOfRangeByte_39247_14 rfl ?_
  refine pr_iload_n hA dJ7_copyOfRangeByte_39247_15 rfl ?_
  refine pr_aload hA dJ7_copyOfRangeByte_39247_16 rfl ?_
  refine pr_iconst hA (0) dJ7_copyOfRangeByte_39247_18 (by decide) ?_
  refine pr_aload_n hA dJ7_copyOfRangeByte_39247_19 rfl ?_
  refine pr_alenB hA ((if_neg (Nat.ne_of_lt hlt)).trans hu) dJ7_copyOfRangeByte_39247_20 ?_
  refine pr_iload_n hA dJ7_copyOfRangeByte_39247_21 rfl ?_
  refine pr_isub hA dJ7_copyOfRangeByte_39247_22 ?_
  refine pr_topE (z := nI m) (Int32.sub_zero _) ?_
  refine pr_iload_n hA dJ7_copyOfRangeByte_39247_23 rfl ?_
  refine pr_mmin hA rfl ⟨kM_J7_304, kT_J9_min_7cf53, kZ_J9, kO_J9_min_7cf53⟩ (by decide) (by omega) (by omega) (Nat.le_of_ble_eq_true rfl) dJ7_copyOfRangeByte_39247_24 ?_
  refine pr_topE (z := nI n) ((jmin (by omega) (by omega)).trans (by rw [Nat.min_eq_right (by omega)])) ?_
  have eI : pr_row I T.1 (fun _ => 0) u = I u := pr_row_ne (Nat.ne_of_lt hlt)
  have cl : (nI n).toNatClampNeg = n := nI_clamp (by omega)
  refine pr_copyB (n0 := m) (n1 := n) hA rfl ⟨kM_J7_150, kN_System_arraycopy__Ljava_lang_Object_ILjava_lang_Object_II_V, kT_System_arraycopy__Ljava_lang_Object_ILjava_lang_Object_II_V, kZ_J10⟩ (by decide) ((if_neg (Nat.ne_of_lt hlt)).trans hu) (if_pos rfl) (by decide) (by decide) (nI_pos (by omega)) (by rw [cl]; show 0 + n ≤ m; omega) (by rw [cl]; show 0 + n ≤ n; omega) (fun i hi => by rw [cl] at hi; rw [eI]; show fits .byte (.int (I u (0 + i))) = true; rw [Nat.zero_add]; exact hf i (by omega)) (Nat.le_of_ble_eq_true rfl) dJ7_copyOfRangeByte_39247_27 ?_
  rw [eI, pr_row_eq, cl]
  refine pr_gI (I' := pr_row I T.1 (va_cpy (I u) (fun _ => 0) 0 0 n)) (by funext a; by_cases e : a = T.1 <;> simp [pr_row, e] <;> rfl) ?_
  refine pr_aload hA dJ7_copyOfRangeByte_39247_30 rfl ?_
  exact pr_areturn hA rfl (Or.inr ⟨_, rfl⟩) (by omega) (by omega) dJ7_copyOfRangeByte_39247_32 ⟨rfl, rfl, rfl, _, rfl, fun j hj => jcpy1 hj⟩
set_option maxRecDepth 100000 in
set_option maxHeartbeats 400000 in
theorem c_jcr {g : pr_C} {l : Launch} (hl : l.stackTraces = false) {T : pr_T} {I : pr_I} {L : pr_L} {u m n : Nat} (hu : T.2.1 u = (22, m)) (hlt : u < T.1) (hm : m ≤ 700) (hnm : n ≤ m) (hf : jBt m (I u)) : pr_M g l 3 1 700 mJ7_copyOfRange_39247 [.ref u, .int 0, .int (nI n)] T I L (jCp u n T I L) pr_no := by
  refine pr_ofG (by decide) rfl hl (Nat.le_of_ble_eq_true rfl) (fun X hA hX hXn hXt => ?_)
  subst hX
  show pr_G g X mJ7_copyOfRange_39247.2.2.1 _ 0 0 0 [.ref u, .int 0, .int (nI n)] [] T I L
  refine pr_iload_n hA dJ7_copyOfRange_39247_0 rfl ?_
  refine pr_if_ne hA 10 dJ7_copyOfRange_39247_1 (by decide) (fun c_1 => absurd rfl c_1) (fun _ => ?_)
  refine pr_iload_n hA dJ7_copyOfRange_39247_4 rfl ?_
  refine pr_aload_n hA dJ7_copyOfRange_39247_5 rfl ?_
  refine pr_alenB hA hu dJ7_copyOfRange_39247_6 ?_
  refine pr_icmp_eq hA 17 dJ7_copyOfRange_39247_7 (by decide) (fun c9 => ?_) (fun c9 => ?_)
  · have e : n = m := (nI_eq (by omega) (by omega)).mp c9
    refine pr_aload_n hA dJ7_copyOfRange_39247_17 rfl ?_
    refine pr_cloneB (n := m) hA rfl kM_J7_310 (List.mem_filter.mpr ⟨by decide +kernel, by decide +kernel⟩) (List.mem_filter.mpr ⟨by decide +kernel, by decide +kernel⟩) (List.mem_filter.mpr ⟨by decide +kernel, by decide +kernel⟩) (List.mem_filter.mpr ⟨by decide +kernel, by decide +kernel⟩) (by decide) hu hf (by omega) (by omega) (by decide) dJ7_copyOfRange_39247_18 ?_
    refine pr_castB (n := m) hA kC_J7_311 (if_pos rfl) dJ7_copyOfRange_39247_21 ?_
    exact pr_areturn hA rfl (Or.inr ⟨_, rfl⟩) (by omega) (by omega) dJ7_copyOfRange_39247_24 ⟨rfl, by rw [e], rfl, _, rfl, fun _ _ => rfl⟩
  · refine pr_aload_n hA dJ7_copyOfRange_39247_10 rfl ?_
    refine pr_iload_n hA dJ7_copyOfRange_39247_11 rfl ?_
    refine pr_iload_n hA dJ7_copyOfRange_39247_12 rfl ?_
    refine pr_callS hA rfl (As := [.ref u, .int 0, .int (nI n)]) (c_jcb (pr_hl hA) hu hlt hm hnm hf) s_J7_339 rfl (by decide) (Nat.le_refl _) (Nat.le_refl _) rfl (Nat.le_of_ble_eq_true rfl) dJ7_copyOfRange_39247_13 (fun v9 T8 I8 L8 q9 => ?_) (fun _ _ _ _ q9 => q9.elim)
    have q10 := q9
    obtain ⟨rfl, -⟩ := q9
    exact pr_areturn hA rfl (Or.inr ⟨_, rfl⟩) (by omega) (by omega) dJ7_copyOfRange_39247_16 q10
set_option maxRecDepth 100000 in
set_option maxHeartbeats 400000 in
theorem c_jgv {g : pr_C} {l : Launch} (hl : l.stackTraces = false) {T : pr_T} {I : pr_I} {L : pr_L} {b v : Nat} (h6 : T.2.1 b = (8, 0)) (h7 : T.2.2 b 0 = some v) : pr_M g l 1 0 0 mJ5_getValue_6d5f1 [.ref b] T I L (pr_R (some (.ref v)) T I L) pr_no := by
  refine pr_ofG (by decide) rfl hl (Nat.le_of_ble_eq_true rfl) (fun X hA hX hXn hXt => ?_)
  subst hX
  show pr_G g X mJ5_getValue_6d5f1.2.2.1 _ 0 0 0 [.ref b] [] T I L
  refine pr_aload_n hA dJ5_getValue_6d5f1_0 rfl ?_
  refine pr_getJR hA jC8 (by decide) rfl jfk_v h6 h7 dJ5_getValue_6d5f1_1 ?_
  exact pr_areturn hA rfl (Or.inr ⟨_, rfl⟩) (Nat.zero_le _) (Nat.zero_le _) dJ5_getValue_6d5f1_4 ⟨rfl, rfl, rfl, rfl⟩
set_option maxRecDepth 100000 in
set_option maxHeartbeats 400000 in
theorem c_jle {g : pr_C} {l : Launch} (hl : l.stackTraces = false) {T : pr_T} {I : pr_I} {L : pr_L} {b : Nat} {tx : List Nat} (h6 : T.2.1 b = (8, 0)) (h9 : I b 3 = nI tx.length) : pr_M g l 1 0 0 mJ5_length_8abf5 [.ref b] T I L (pr_R (some (.int (nI tx.length))) T I L) pr_no := by
  refine pr_ofG (by decide) rfl hl (Nat.le_of_ble_eq_true rfl) (fun X hA hX hXn hXt => ?_)
  subst hX
  show pr_G g X mJ5_length_8abf5.2.2.1 _ 0 0 0 [.ref b] [] T I L
  refine pr_aload_n hA dJ5_length_8abf5_0 rfl ?_
  refine pr_getJI (v := nI tx.length) hA jC8 (by decide) rfl jfk_n h6 h9 dJ5_length_8abf5_1 ?_
  exact pr_ireturn hA rfl rfl (Nat.zero_le _) (Nat.zero_le _) dJ5_length_8abf5_4 ⟨rfl, rfl, rfl, rfl⟩
set_option maxRecDepth 100000 in
set_option maxHeartbeats 400000 in
theorem c_jLE {g : pr_C} {l : Launch} (hl : l.stackTraces = false) {T : pr_T} {I : pr_I} {L : pr_L} {b : Nat} {tx : List Nat} (h6 : T.2.1 b = (8, 0)) (h9 : I b 3 = nI tx.length) : pr_M g l 2 0 0 mJ4_length_8abf5 [.ref b] T I L (pr_R (some (.int (nI tx.length))) T I L) pr_no := by
  refine pr_ofG (by decide) rfl hl (Nat.le_of_ble_eq_true rfl) (fun X hA hX hXn hXt => ?_)
  subst hX
  show pr_G g X mJ4_length_8abf5.2.2.1 _ 0 0 0 [.ref b] [] T I L
  refine pr_aload_n hA dJ4_length_8abf5_0 rfl ?_
  refine pr_callSU (n := 0) hA rfl (As := []) (c_jle (pr_hl hA) h6 h9) rfl (by decide +kernel) (by decide) ⟨kM_J4_343, rfl, by decide +kernel, ⟨_, _, _, kO_J5_length_8abf5⟩, kI_J5_length_8abf5, kZ_J5, kO_J5_length_8abf5, kI_J5_length_8abf5, by decide +kernel, by decide, rfl⟩ h6 rfl (by decide) (Nat.zero_le _) (Nat.zero_le _) rfl (Nat.le_of_ble_eq_true rfl) dJ4_length_8abf5_1 (fun v9 T8 I8 L8 q9 => ?_)
  obtain ⟨rfl, e7, e8, e9⟩ := q9; obtain rfl := e7.symm; obtain rfl := e8.symm; obtain rfl := e9.symm
  show pr_G g X _ _ 0 0 4 _ (.int (nI tx.length) :: _) T I L
  exact pr_ireturn hA rfl rfl (Nat.zero_le _) (Nat.zero_le _) dJ4_length_8abf5_4 ⟨rfl, rfl, rfl, rfl⟩
/-- a string made at s out of a builder -/
def jSt (s : Nat) (tx : List Nat) (T : pr_T) (I : pr_I) (L : pr_L) : Option Value → pr_T → pr_I → pr_L → Prop := fun v' T' I' L' => v' = none ∧ jF s s T I T' I' ∧ L' = L ∧ ∃ u, jO s u tx T' I' ∧ u < T'.1 ∧ s ≤ u
set_option maxRecDepth 100000 in
set_option maxHeartbeats 400000 in
theorem c_jsv {g : pr_C} {l : Launch} (hl : l.stackTraces = false) {T : pr_T} {I : pr_I} {L : pr_L} {z b s : Nat} {tx : List Nat} (h : jB z b tx 0 T I) (hbs : b < s) (hvs : ∀ v, T.2.2 b 0 = some v → v < s) (hs : T.2.1 s = (9, 0)) (hlt : s < T.1) (hI : I s = fun _ => 0) : pr_M g l 4 1 700 mJ0_init_db425 [.ref s, .ref b, .null] T I L (jSt s tx T I L) pr_no := by
  have hj := h
  obtain ⟨v, m, h1, h2, h3, h4, h5, h6, h7, h8, h9, h10, h11, h12, h13, h14, h15, h16⟩ := h
  have hv := hvs v h7
  refine pr_ofG (by decide) rfl hl (Nat.le_of_ble_eq_true rfl) (fun X hA hX hXn hXt => ?_)
  subst hX
  show pr_G g X mJ0_init_db425.2.2.1 _ 0 0 0 [.ref s, .ref b, .null, .null, .null] [] T I L
  refine pr_aload_n hA dJ0_init_db425_0 rfl ?_
  refine pr_objInit hA rfl kM_J0_1 kI_Object__init____V kO_Object__init____V (by decide) (by decide) dJ0_init_db425_1 ?_
  refine pr_aload_n hA dJ0_init_db425_4 rfl ?_
  refine pr_callU (n := 0) hA rfl (As := []) (c_jgv (pr_hl hA) h6 h7) ⟨kM_J0_552, rfl, by decide +kernel, ⟨_, _, _, kO_J5_getValue_6d5f1⟩, kI_J5_getValue_6d5f1, kZ_J5, kO_J5_getValue_6d5f1, kI_J5_getValue_6d5f1, by decide +kernel, by decide, rfl⟩ (List.mem_filter.mpr ⟨by decide +kernel, by decide +kernel⟩) h6 rfl (by decide) (Nat.zero_le _) (Nat.zero_le _) rfl (Nat.le_of_ble_eq_true rfl) dJ0_init_db425_5 (fun v9 T8 I8 L8 q9 => ?_)
  obtain ⟨rfl, e7, e8, e9⟩ := q9; obtain rfl := e7.symm; obtain rfl := e8.symm; obtain rfl := e9.symm
  show pr_G g X _ _ 0 0 8 _ (.ref v :: _) T I L
  refine pr_astore_n (ls' := [_, _, _, _, _]) hA dJ0_init_db425_8 (by decide) rfl ?_
  refine pr_aload_n hA dJ0_init_db425_9 rfl ?_
  refine pr_callU (n := 0) hA rfl (As := []) (c_jLE (pr_hl hA) h6 h9) ⟨kM_J0_549, rfl, by decide +kernel, ⟨_, _, _, kO_J5_length_8abf5⟩, kI_J5_length_8abf5, kZ_J4, kO_J4_length_8abf5, kI_J4_length_8abf5, by decide +kernel, by decide, rfl⟩ (List.mem_filter.mpr ⟨by decide +kernel, by decide +kernel⟩) h6 rfl (by decide) (Nat.zero_le _) (Nat.zero_le _) rfl (Nat.le_of_ble_eq_true rfl) dJ0_init_db425_10 (fun v9 T8 I8 L8 q9 => ?_)
  obtain ⟨rfl, e7, e8, e9⟩ := q9; obtain rfl := e7.symm; obtain rfl := e8.symm; obtain rfl := e9.symm
  show pr_G g X _ _ 0 0 13 _ (.int (nI tx.length) :: _) T I L
  refine pr_istore (ls' := [_, _, _, _, _]) hA dJ0_init_db425_13 (by decide) rfl ?_
  refine pr_aload_n hA dJ0_init_db425_15 rfl ?_
  refine pr_callU (n := 0) hA rfl (As := []) (c_jlat (pr_hl hA) hj) ⟨kM_J0_1047, rfl, by decide +kernel, ⟨_, _, _, kO_J5_isLatin1_aae02⟩, kI_J5_isLatin1_aae02, kZ_J5, kO_J5_isLatin1_aae02, kI_J5_isLatin1_aae02, by decide +kernel, by decide, rfl⟩ (List.mem_filter.mpr ⟨by decide +kernel, by decide +kernel⟩) h6 rfl (by decide) (Nat.zero_le _) (Nat.zero_le _) rfl (Nat.le_of_ble_eq_true rfl) dJ0_init_db425_16 (fun v9 T8 I8 L8 q9 => ?_)
  obtain ⟨rfl, e7, e8, e9⟩ := q9; obtain rfl := e7.symm; obtain rfl := e8.symm; obtain rfl := e9.symm
  show pr_G g X _ _ 0 0 19 _ (.int 1 :: _) T I L
  refine pr_if_eq hA 41 dJ0_init_db425_19 (by decide) (fun c_19 => absurd c_19 (by decide)) (fun _ => ?_)
  refine pr_aload_n hA dJ0_init_db425_22 rfl ?_
  refine pr_iconst hA (0) dJ0_init_db425_23 (by decide) ?_
  refine pr_putJF (T' := T) (I' := pr_up I s 1 0) hA jC9 (by decide) rfl rfl rfl (hXn.trans rfl) rfl jfo_c hs rfl rfl (fun _ _ => rfl) (fun _ q => pr_up_ne q) (pr_obj_set (T := T) (I := I) (a := s) (ci := 9) (k := 1) (v := 0) rfl) dJ0_init_db425_24 ?_
  refine pr_gI (I' := I) (pr_up_id (by rw [hI])) ?_
  refine pr_aload_n hA dJ0_init_db425_27 rfl ?_
  refine pr_aload_n hA dJ0_init_db425_28 rfl ?_
  refine pr_iconst hA (0) dJ0_init_db425_29 (by decide) ?_
  refine pr_iload hA dJ0_init_db425_30 rfl ?_
  refine pr_callS hA rfl (As := [.ref v, .int 0, .int (nI tx.length)]) (c_jcr (pr_hl hA) h10 h4 h13 h11 h14) s_J0_54 rfl (by decide) (Nat.le_refl _) (Nat.le_refl _) rfl (Nat.le_of_ble_eq_true rfl) dJ0_init_db425_32 (fun v9 T8 I8 L8 q9 => ?_) (fun _ _ _ _ q9 => q9.elim)
  obtain ⟨rfl, e7, e9, f, e8, hf⟩ := q9; subst e7; subst e8; obtain rfl := e9.symm
  refine pr_putJF (T' := pr_upr (pr_new T 22 tx.length) s 0 (some T.1)) (I' := pr_row I T.1 f) hA jC9 (by decide) rfl rfl rfl (hXn.trans rfl) rfl jfo_v ((if_neg (Nat.ne_of_lt hlt)).trans hs) rfl rfl (fun b9 q => by funext j; simp [pr_upr, q]) (fun _ _ => rfl) (pr_obj_setr (T := pr_new T 22 tx.length) (I := pr_row I T.1 f) (a := s) (ci := 9) (k := 0) (v := some T.1) rfl) dJ0_init_db425_35 ?_
  refine pr_goto hA 97 dJ0_init_db425_38 (by decide) ?_
  refine pr_return hA rfl (Nat.le_refl _) (Nat.le_refl _) dJ0_init_db425_97 ⟨rfl, ⟨Nat.le_succ _, fun a ha hab => ⟨if_neg (by omega), ?_, pr_row_ne (by omega)⟩⟩, rfl, T.1, ⟨(if_neg (Nat.ne_of_lt hlt)).trans hs, if_pos ⟨rfl, rfl⟩, ?_, if_pos rfl, fun j hj => ?_, h16, by omega⟩, Nat.lt_succ_self _, Nat.le_of_lt hlt⟩
  · funext j
    show (if a = s ∧ j = 0 then _ else if a = T.1 then none else T.2.2 a j) = T.2.2 a j
    rw [if_neg (fun q9 => by omega), if_neg (by omega)]
  · rw [pr_row_ne (Nat.ne_of_lt hlt), hI]
  · rw [pr_row_eq, hf j hj]; exact h15 j hj
set_option maxRecDepth 100000 in
set_option maxHeartbeats 400000 in
theorem c_jsB {g : pr_C} {l : Launch} (hl : l.stackTraces = false) {T : pr_T} {I : pr_I} {L : pr_L} {z b s : Nat} {tx : List Nat} (h : jB z b tx 0 T I) (hbs : b < s) (hvs : ∀ v, T.2.2 b 0 = some v → v < s) (hs : T.2.1 s = (9, 0)) (hlt : s < T.1) (hI : I s = fun _ => 0) : pr_M g l 5 1 700 mJ0_init_81219 [.ref s, .ref b] T I L (jSt s tx T I L) pr_no := by
  refine pr_ofG (by decide) rfl hl (Nat.le_of_ble_eq_true rfl) (fun X hA hX hXn hXt => ?_)
  subst hX
  show pr_G g X mJ0_init_81219.2.2.1 _ 0 0 0 [.ref s, .ref b] [] T I L
  refine pr_aload_n hA dJ0_init_81219_0 rfl ?_
  refine pr_aload_n hA dJ0_init_81219_1 rfl ?_
  refine pr_null hA dJ0_init_81219_2 ?_
  refine pr_callI hA rfl (As := [.ref b, .null]) (c_jsv (pr_hl hA) h hbs hvs hs hlt hI) b_J0_489 kI_J0_init_db425 rfl rfl rfl (by decide) (by omega) (by omega) rfl (Nat.le_of_ble_eq_true rfl) dJ0_init_81219_3 (fun v9 T9 I9 L9 q9 => ?_)
  obtain ⟨rfl, q9⟩ := q9
  exact pr_return hA rfl (Nat.le_refl _) (Nat.le_refl _) dJ0_init_81219_6 ⟨rfl, q9⟩
def jTs (tx : List Nat) (T : pr_T) (I : pr_I) (L : pr_L) : Option Value → pr_T → pr_I → pr_L → Prop := fun v' T' I' L' => v' = some (.ref T.1) ∧ jF T.1 T.1 T I T' I' ∧ L' = L ∧ ∃ u, jO T.1 u tx T' I' ∧ u < T'.1 ∧ T.1 < T'.1 ∧ T.1 ≤ u
set_option maxRecDepth 100000 in
set_option maxHeartbeats 400000 in
theorem c_jTS {g : pr_C} {l : Launch} (hl : l.stackTraces = false) {T : pr_T} {I : pr_I} {L : pr_L} {z b : Nat} {tx : List Nat} (h : jB z b tx 0 T I) : pr_M g l 6 2 704 mJ4_toString_0e30d [.ref b] T I L (jTs tx T I L) pr_no := by
  have hj := h
  obtain ⟨v, m, h1, h2, h3, h4, h5, h6, h7, h8, h9, h10, h11, h12, h13, h14, h15, h16⟩ := h
  refine pr_ofG (by decide) rfl hl (Nat.le_of_ble_eq_true rfl) (fun X hA hX hXn hXt => ?_)
  subst hX
  show pr_G g X mJ4_toString_0e30d.2.2.1 _ 0 0 0 [.ref b] [] T I L
  refine pr_newJ hA jC9 kC_J4_18 (List.mem_filter.mpr ⟨by decide +kernel, by decide +kernel⟩) kZ_J0 (by omega) (by omega) dJ4_toString_0e30d_0 ?_
  have hT : jF T.1 T.1 T I (pr_new T 9 0) (pr_row I T.1 (fun _ => 0)) := ⟨Nat.le_succ _, fun a ha hab => ⟨if_neg (by omega), by funext j; exact if_neg (by omega), pr_row_ne (by omega)⟩⟩
  have hj2 : jB z b tx 0 (pr_new T 9 0) (pr_row I T.1 (fun _ => 0)) := by
    refine ⟨v, m, Nat.le_succ_of_le h1, Nat.lt_succ_of_lt h2, h3, Nat.lt_succ_of_lt h4, h5, (if_neg (Nat.ne_of_lt h2)).trans h6, (if_neg (Nat.ne_of_lt h2)).trans h7, ?_, ?_, (if_neg (Nat.ne_of_lt h4)).trans h10, h11, h12, h13, ?_, ?_, h16⟩
    · rw [pr_row_ne (Nat.ne_of_lt h2)]; exact h8
    · rw [pr_row_ne (Nat.ne_of_lt h2)]; exact h9
    · rw [pr_row_ne (Nat.ne_of_lt h4)]; exact h14
    · rw [pr_row_ne (Nat.ne_of_lt h4)]; exact h15
  refine pr_dup hA dJ4_toString_0e30d_3 rfl ?_
  refine pr_aload_n hA dJ4_toString_0e30d_4 rfl ?_
  refine pr_callI hA rfl (As := [.ref b]) (c_jsB (pr_hl hA) hj2 h2 (fun v9 q9 => by
    have : T.2.2 b 0 = some v9 := ((if_neg (Nat.ne_of_lt h2)).symm.trans q9)
    rw [h7] at this; cases this; exact h4) (if_pos rfl) (Nat.lt_succ_self _) pr_row_eq) b_J4_137 kI_J0_init_81219 rfl rfl rfl (by decide) (by omega) (by omega) rfl (Nat.le_of_ble_eq_true rfl) dJ4_toString_0e30d_5 (fun v9 T9 I9 L9 q9 => ?_)
  obtain ⟨rfl, hF, e9, u, q3, q4, q5⟩ := q9
  exact pr_areturn hA rfl (Or.inl ⟨_, rfl⟩) (by omega) (by omega) dJ4_toString_0e30d_8 ⟨rfl, hT.trans hF, e9, u, q3, q4, Nat.lt_of_lt_of_le (Nat.lt_succ_self _) hF.1, q5⟩
set_option maxRecDepth 100000 in
set_option maxHeartbeats 400000 in
theorem c_jc1 {g : pr_C} {l : Launch} (hl : l.stackTraces = false) {T : pr_T} {I : pr_I} {L : pr_L} {s u i : Nat} {tx : List Nat} (h : jO s u tx T I) (hi : i < tx.length) : pr_M g l 3 0 0 mJ1_charAt_3b067 [.ref u, .int (nI i)] T I L (pr_R (some (.int (nI (tx.getD i 0)))) T I L) pr_no := by
  have hx := h.2.2.2.2.2.1 _ (jmem hi)
  have hl7 := h.2.2.2.2.2.2
  refine pr_ofG (by decide) rfl hl (Nat.le_of_ble_eq_true rfl) (fun X hA hX hXn hXt => ?_)
  subst hX
  show pr_G g X mJ1_charAt_3b067.2.2.1 _ 0 0 0 [.ref u, .int (nI i)] [] T I L
  have hch : ∀ c, c < 128 → ((nI c &&& 255).toUInt32 % 65536).toInt32 = nI c := by decide +kernel
  refine pr_iload_n hA dJ1_charAt_3b067_0 rfl ?_
  refine pr_aload_n hA dJ1_charAt_3b067_1 rfl ?_
  refine pr_alenB hA h.2.2.2.1 dJ1_charAt_3b067_2 ?_
  refine pr_callSv hA [.int (nI i), .int (nI tx.length)] (c_chk0 (pr_hl hA) hi (by omega)) s_J1_9 rfl (by decide) (Nat.zero_le _) (Nat.zero_le _) rfl (Nat.le_of_ble_eq_true rfl) dJ1_charAt_3b067_3 ?_
  refine pr_aload_n hA dJ1_charAt_3b067_6 rfl ?_
  refine pr_iload_n hA dJ1_charAt_3b067_7 rfl ?_
  refine pr_bald hA h.2.2.2.1 (nI_vin hi (by omega)) dJ1_charAt_3b067_8 ?_
  rw [nI_clamp (by omega), h.2.2.2.2.1 i hi]
  refine pr_sipush hA ((255 : Int32)) dJ1_charAt_3b067_9 (by decide) ?_
  refine pr_iand hA dJ1_charAt_3b067_12 ?_
  refine pr_topE (z := nI (tx.getD i 0) &&& 255) rfl ?_
  refine pr_i2c hA dJ1_charAt_3b067_13 ?_
  refine pr_topE (z := nI (tx.getD i 0)) (hch _ hx) ?_
  exact pr_ireturn hA rfl (jnc _ hx) (Nat.zero_le _) (Nat.zero_le _) dJ1_charAt_3b067_14 ⟨rfl, rfl, rfl, rfl⟩
set_option maxRecDepth 100000 in
set_option maxHeartbeats 400000 in
theorem c_jca {g : pr_C} {l : Launch} (hl : l.stackTraces = false) {T : pr_T} {I : pr_I} {L : pr_L} {s u i : Nat} {tx : List Nat} (h : jO s u tx T I) (hi : i < tx.length) : pr_M g l 4 0 0 mJ0_charAt_5068e [.ref s, .int (nI i)] T I L (pr_R (some (.int (nI (tx.getD i 0)))) T I L) pr_no := by
  have hx := h.2.2.2.2.2.1 _ (jmem hi)
  refine pr_ofG (by decide) rfl hl (Nat.le_of_ble_eq_true rfl) (fun X hA hX hXn hXt => ?_)
  subst hX
  show pr_G g X mJ0_charAt_5068e.2.2.1 _ 0 0 0 [.ref s, .int (nI i)] [] T I L
  refine pr_aload_n hA dJ0_charAt_5068e_0 rfl ?_
  refine pr_callX hA rfl (As := []) (n := 0) (Or.inr ⟨u, h⟩) (c_jlt (pr_hl hA) (Or.inr ⟨u, h⟩)) v_J0_492 rfl rfl (by decide) (Nat.zero_le _) (Nat.zero_le _) rfl (Nat.le_of_ble_eq_true rfl) dJ0_charAt_5068e_1 (fun v9 T8 I8 L8 q9 => ?_)
  obtain ⟨rfl, e7, e8, e9⟩ := q9; obtain rfl := e7.symm; obtain rfl := e8.symm; obtain rfl := e9.symm
  show pr_G g X _ _ 0 0 4 _ (.int 1 :: _) T I L
  refine pr_if_eq hA 16 dJ0_charAt_5068e_4 (by decide) (fun c_4 => absurd c_4 (by decide)) (fun _ => ?_)
  refine pr_aload_n hA dJ0_charAt_5068e_7 rfl ?_
  refine pr_getJR hA jC9 (by decide) rfl jfo_v h.1 h.2.1 dJ0_charAt_5068e_8 ?_
  refine pr_iload_n hA dJ0_charAt_5068e_11 rfl ?_
  refine pr_callSi hA [.ref u, .int (nI i)] (c_jc1 (pr_hl hA) h hi) s_J0_495 rfl (by decide) (Nat.zero_le _) (Nat.zero_le _) rfl (Nat.le_of_ble_eq_true rfl) dJ0_charAt_5068e_12 ?_
  exact pr_ireturn hA rfl (jnc _ hx) (Nat.zero_le _) (Nat.zero_le _) dJ0_charAt_5068e_15 ⟨rfl, rfl, rfl, rfl⟩
