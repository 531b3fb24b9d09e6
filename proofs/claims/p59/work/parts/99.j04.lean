/-! THE BUILDER'S STATES, ITS SMALL METHODS, ITS GROWTH -/
/-- only b and cells from z on have changed -/
def jF (z b : Nat) (T : pr_T) (I : pr_I) (T' : pr_T) (I' : pr_I) : Prop := T.1 ≤ T'.1 ∧ ∀ a, a < z → a ≠ b → T'.2.1 a = T.2.1 a ∧ T'.2.2 a = T.2.2 a ∧ I' a = I a
theorem jF.rf {z b : Nat} {T : pr_T} {I : pr_I} : jF z b T I T I := ⟨Nat.le_refl _, fun _ _ _ => ⟨rfl, rfl, rfl⟩⟩
theorem jF.trans {z b : Nat} {T T1 T2 : pr_T} {I I1 I2 : pr_I} (h : jF z b T I T1 I1) (k : jF z b T1 I1 T2 I2) : jF z b T I T2 I2 := ⟨Nat.le_trans h.1 k.1, fun a ha hb => ⟨(k.2 a ha hb).1.trans (h.2 a ha hb).1, (k.2 a ha hb).2.1.trans (h.2 a ha hb).2.1, (k.2 a ha hb).2.2.trans (h.2 a ha hb).2.2⟩⟩
theorem jF.mono {z z' b b' : Nat} {T T1 : pr_T} {I I1 : pr_I} (h : jF z b T I T1 I1) (hz : z' ≤ z) (hb : b' = b ∨ z' ≤ b) : jF z' b' T I T1 I1 := ⟨h.1, fun a ha hab => h.2 a (by omega) (by omega)⟩
/-- bytes -/
def jBt (n : Nat) (f : Nat → Int32) : Prop := ∀ j, j < n → fits .byte (.int (f j)) = true
/-- the builder at b holds the text tx, with room for c letters; all its cells lie at z or behind -/
def jB (z b : Nat) (tx : List Nat) (c : Nat) (T : pr_T) (I : pr_I) : Prop := ∃ v m, z ≤ T.1 ∧ b < T.1 ∧ z ≤ v ∧ v < T.1 ∧ v ≠ b ∧ T.2.1 b = (8, 0) ∧ T.2.2 b 0 = some v ∧ I b 1 = 0 ∧ I b 3 = nI tx.length ∧ T.2.1 v = (22, m) ∧ tx.length ≤ m ∧ c ≤ m ∧ m ≤ 700 ∧ jBt m (I v) ∧ (∀ j, j < tx.length → I v j = nI (tx.getD j 0)) ∧ ∀ x ∈ tx, x < 128
theorem jB.mono {z b : Nat} {tx : List Nat} {c c' : Nat} {T : pr_T} {I : pr_I} (h : jB z b tx c T I) (hc : c' ≤ c) : jB z b tx c' T I := by
  obtain ⟨v, m, h1, h2, h3, h4, h5, h6, h7, h8, h9, h10, h11, h12, h13⟩ := h
  exact ⟨v, m, h1, h2, h3, h4, h5, h6, h7, h8, h9, h10, h11, by omega, h13⟩
theorem jB.k {z b : Nat} {tx : List Nat} {c : Nat} {T : pr_T} {I : pr_I} (h : jB z b tx c T I) : T.2.1 b = (8, 0) := by
  obtain ⟨v, m, h1, h2, h3, h4, h5, h6, -⟩ := h
  exact h6
theorem jfk_v : Cond.fieldLink RJ5 15 (TJ4 0).1 (TJ4 0).2.1 (TJ4 0).2.2.1 ∈ pr_gw := kF_J5_15
theorem jfk_c : Cond.fieldLink RJ5 22 (TJ4 1).1 (TJ4 1).2.1 (TJ4 1).2.2.1 ∈ pr_gw := kF_J5_22
theorem jfk_n : Cond.fieldLink RJ5 79 (TJ4 3).1 (TJ4 3).2.1 (TJ4 3).2.2.1 ∈ pr_gw := kF_J5_79
theorem jshl0 (x : Int32) : x <<< ((0 : Int32) &&& 31) = x := by rw [show (0 : Int32) &&& 31 = 0 from by decide]; exact Int32.shiftLeft_zero
theorem jnI0 : (nI 0 : Int32) = 0 := rfl
set_option maxRecDepth 100000 in
set_option maxHeartbeats 400000 in
theorem c_jlat {g : pr_C} {l : Launch} (hl : l.stackTraces = false) {T : pr_T} {I : pr_I} {L : pr_L} {z b c : Nat} {tx : List Nat} (h : jB z b tx c T I) : pr_M g l 1 0 0 mJ5_isLatin1_aae02 [.ref b] T I L (pr_R (some (.int 1)) T I L) pr_no := by
  obtain ⟨v, m, h1, h2, h3, h4, h5, h6, h7, h8, h9, h10, h11, h12, h13, h14, h15, h16⟩ := h
  refine pr_ofG (by decide) rfl hl (Nat.le_of_ble_eq_true rfl) (fun X hA hX hXn hXt => ?_)
  subst hX
  show pr_G g X mJ5_isLatin1_aae02.2.2.1 _ 0 0 0 [.ref b] [] T I L
  refine pr_getsC hA kF_J5_18 dJ5_isLatin1_aae02_0 ?_
  refine pr_if_eq hA 17 dJ5_isLatin1_aae02_3 (by decide) (fun c_3 => absurd c_3 (by decide)) (fun _ => ?_)
  refine pr_aload_n hA dJ5_isLatin1_aae02_6 rfl ?_
  refine pr_getJI (v := 0) hA jC8 (by decide) rfl jfk_c h6 h8 dJ5_isLatin1_aae02_7 ?_
  refine pr_if_ne hA 17 dJ5_isLatin1_aae02_10 (by decide) (fun c_10 => absurd rfl c_10) (fun _ => ?_)
  refine pr_iconst hA (1) dJ5_isLatin1_aae02_13 (by decide) ?_
  refine pr_goto hA 18 dJ5_isLatin1_aae02_14 (by decide) ?_
  exact pr_ireturn hA rfl rfl (Nat.zero_le _) (Nat.zero_le _) dJ5_isLatin1_aae02_18 ⟨rfl, rfl, rfl, rfl⟩
theorem jmax {a b : Nat} (ha : a < 2 ^ 31) (hb : b < 2 ^ 31) : (if nI a < nI b then nI b else nI a) = nI (max a b) := by
  by_cases c : a < b
  · rw [if_pos ((nI_ltI ha hb).mpr c), Nat.max_eq_right (by omega)]
  · rw [if_neg (fun q => c ((nI_ltI ha hb).mp q)), Nat.max_eq_left (by omega)]
theorem jmin {a b : Nat} (ha : a < 2 ^ 31) (hb : b < 2 ^ 31) : (if nI b < nI a then nI b else nI a) = nI (min a b) := by
  by_cases c : b < a
  · rw [if_pos ((nI_ltI hb ha).mpr c), Nat.min_eq_right (by omega)]
  · rw [if_neg (fun q => c ((nI_ltI hb ha).mp q)), Nat.min_eq_left (by omega)]
set_option maxRecDepth 100000 in
set_option maxHeartbeats 400000 in
theorem c_jnl {g : pr_C} {l : Launch} (hl : l.stackTraces = false) {T : pr_T} {I : pr_I} {L : pr_L} {m q r : Nat} (hm : m ≤ 700) (hq : q ≤ 2000) (hr : r ≤ 2000) (h0 : 0 < r) : pr_M g l 2 0 0 mJ8_newLength_cabcc [.int (nI m), .int (nI q), .int (nI r)] T I L (pr_R (some (.int (nI (m + max q r)))) T I L) pr_no := by
  have hmx : max q r ≤ 2000 := Nat.max_le.mpr ⟨hq, hr⟩
  have hmr : r ≤ max q r := Nat.le_max_right _ _
  refine pr_ofG (by decide) rfl hl (Nat.le_of_ble_eq_true rfl) (fun X hA hX hXn hXt => ?_)
  subst hX
  show pr_G g X mJ8_newLength_cabcc.2.2.1 _ 0 0 0 [.int (nI m), .int (nI q), .int (nI r), .null] [] T I L
  refine pr_iload_n hA dJ8_newLength_cabcc_0 rfl ?_
  refine pr_iload_n hA dJ8_newLength_cabcc_1 rfl ?_
  refine pr_iload_n hA dJ8_newLength_cabcc_2 rfl ?_
  refine pr_mmax hA rfl ⟨kM_J8_194, kT_J9_max_7cf53, kZ_J9, kO_J9_max_7cf53⟩ (by decide) (Nat.zero_le _) (Nat.zero_le _) (Nat.le_of_ble_eq_true rfl) dJ8_newLength_cabcc_3 ?_
  refine pr_topE (z := nI (max q r)) (jmax (by omega) (by omega)) ?_
  refine pr_iadd hA dJ8_newLength_cabcc_6 ?_
  refine pr_topE (z := nI (m + max q r)) (nI_add _ _) ?_
  refine pr_istore_n (ls' := [_, _, _, _]) hA dJ8_newLength_cabcc_7 (by decide) rfl ?_
  refine pr_iconst hA (nI 0) dJ8_newLength_cabcc_8 (by decide) ?_
  refine pr_iload_n hA dJ8_newLength_cabcc_9 rfl ?_
  refine pr_icmp_ge hA 21 dJ8_newLength_cabcc_10 (by decide) (fun c_10 => absurd c_10 (fun q9 => by have := (nI_leI (by omega) (by omega)).mp q9; omega)) (fun _ => ?_)
  refine pr_iload_n hA dJ8_newLength_cabcc_13 rfl ?_
  refine pr_ldc hA kK_J8_200 dJ8_newLength_cabcc_14 ?_
  refine pr_topE (z := nI 2147483639) (by decide) ?_
  refine pr_icmp_gt hA 21 dJ8_newLength_cabcc_16 (by decide) (fun c_16 => absurd c_16 (fun q9 => by have := (nI_ltI (by omega) (by omega)).mp q9; omega)) (fun _ => ?_)
  refine pr_iload_n hA dJ8_newLength_cabcc_19 rfl ?_
  exact pr_ireturn hA rfl rfl (Nat.zero_le _) (Nat.zero_le _) dJ8_newLength_cabcc_20 ⟨rfl, rfl, rfl, rfl⟩
set_option maxRecDepth 100000 in
set_option maxHeartbeats 400000 in
theorem c_jnc {g : pr_C} {l : Launch} (hl : l.stackTraces = false) {T : pr_T} {I : pr_I} {L : pr_L} {b q v m : Nat} (h6 : T.2.1 b = (8, 0)) (h7 : T.2.2 b 0 = some v) (h8 : I b 1 = 0) (h10 : T.2.1 v = (22, m)) (hm : m < q) (hq : q ≤ 300) : pr_M g l 3 0 0 mJ5_newCapacity_0f7a4 [.ref b, .int (nI q)] T I L (pr_R (some (.int (nI (m + max (q - m) (m + 2))))) T I L) pr_no := by
  have hmx : max (q - m) (m + 2) ≤ 302 := Nat.max_le.mpr ⟨by omega, by omega⟩
  refine pr_ofG (by decide) rfl hl (Nat.le_of_ble_eq_true rfl) (fun X hA hX hXn hXt => ?_)
  subst hX
  show pr_G g X mJ5_newCapacity_0f7a4.2.2.1 _ 0 0 0 [.ref b, .int (nI q), .null, .null, .null, .null] [] T I L
  refine pr_aload_n hA dJ5_newCapacity_0f7a4_0 rfl ?_
  refine pr_getJR hA jC8 (by decide) rfl jfk_v h6 h7 dJ5_newCapacity_0f7a4_1 ?_
  refine pr_alenB hA h10 dJ5_newCapacity_0f7a4_4 ?_
  refine pr_istore_n (ls' := [_, _, _, _, _, _]) hA dJ5_newCapacity_0f7a4_5 (by decide) rfl ?_
  refine pr_iload_n hA dJ5_newCapacity_0f7a4_6 rfl ?_
  refine pr_aload_n hA dJ5_newCapacity_0f7a4_7 rfl ?_
  refine pr_getJI (v := 0) hA jC8 (by decide) rfl jfk_c h6 h8 dJ5_newCapacity_0f7a4_8 ?_
  refine pr_ishl hA dJ5_newCapacity_0f7a4_11 ?_
  refine pr_topE (z := nI q) (jshl0 _) ?_
  refine pr_istore_n (ls' := [_, _, _, _, _, _]) hA dJ5_newCapacity_0f7a4_12 (by decide) rfl ?_
  refine pr_iload_n hA dJ5_newCapacity_0f7a4_13 rfl ?_
  refine pr_iload_n hA dJ5_newCapacity_0f7a4_14 rfl ?_
  refine pr_isub hA dJ5_newCapacity_0f7a4_15 ?_
  refine pr_topE (z := nI (q - m)) (pk_sub (by omega)) ?_
  refine pr_istore (ls' := [_, _, _, _, _, _]) hA dJ5_newCapacity_0f7a4_16 (by decide) rfl ?_
  refine pr_iload_n hA dJ5_newCapacity_0f7a4_18 rfl ?_
  refine pr_iload hA dJ5_newCapacity_0f7a4_19 rfl ?_
  refine pr_iload_n hA dJ5_newCapacity_0f7a4_21 rfl ?_
  refine pr_iconst hA (2) dJ5_newCapacity_0f7a4_22 (by decide) ?_
  refine pr_aload_n hA dJ5_newCapacity_0f7a4_23 rfl ?_
  refine pr_getJI (v := 0) hA jC8 (by decide) rfl jfk_c h6 h8 dJ5_newCapacity_0f7a4_24 ?_
  refine pr_ishl hA dJ5_newCapacity_0f7a4_27 ?_
  refine pr_topE (z := (2 : Int32)) (jshl0 _) ?_
  refine pr_iadd hA dJ5_newCapacity_0f7a4_28 ?_
  refine pr_topE (z := nI (m + 2)) (nI_add m 2) ?_
  refine pr_callSi hA [.int (nI m), .int (nI (q - m)), .int (nI (m + 2))] (c_jnl (pr_hl hA) (by omega) (by omega) (by omega) (by omega)) s_J5_114 rfl (by decide) (Nat.zero_le _) (Nat.zero_le _) rfl (Nat.le_of_ble_eq_true rfl) dJ5_newCapacity_0f7a4_29 ?_
  refine pr_istore (ls' := [_, _, _, _, _, _]) hA dJ5_newCapacity_0f7a4_32 (by decide) rfl ?_
  refine pr_iload hA dJ5_newCapacity_0f7a4_34 rfl ?_
  refine pr_ldc hA kK_J5_39 dJ5_newCapacity_0f7a4_36 ?_
  refine pr_topE (z := nI 2147483647) (by decide) ?_
  refine pr_icmp_ne hA 51 dJ5_newCapacity_0f7a4_38 (by decide) (fun _ => ?_) (fun c_38 => absurd c_38 (fun q9 => by have := (nI_eq (by omega) (by omega)).mp q9; omega))
  refine pr_iload hA dJ5_newCapacity_0f7a4_51 rfl ?_
  refine pr_aload_n hA dJ5_newCapacity_0f7a4_53 rfl ?_
  refine pr_getJI (v := 0) hA jC8 (by decide) rfl jfk_c h6 h8 dJ5_newCapacity_0f7a4_54 ?_
  refine pr_ishr hA dJ5_newCapacity_0f7a4_57 ?_
  refine pr_topE (z := nI (m + max (q - m) (m + 2))) (sb_shr0 _) ?_
  exact pr_ireturn hA rfl rfl (Nat.zero_le _) (Nat.zero_le _) dJ5_newCapacity_0f7a4_58 ⟨rfl, rfl, rfl, rfl⟩
theorem jfit0 : fits .byte (.int 0) = true := by decide
theorem jcpy0 {f : Nat → Int32} {n k : Nat} (hk : k ≤ n) (hf : jBt k f) : jBt n (va_cpy f (fun _ => 0) 0 0 k) := fun j hj => by
  by_cases c : j < k
  · rw [pk_cpy_in (Nat.zero_le _) (by omega), show 0 + (j - 0) = j by omega]; exact hf j c
  · rw [pk_cpy_out (by omega)]; exact jfit0
theorem jcpy1 {f : Nat → Int32} {k j : Nat} (hj : j < k) : va_cpy f (fun _ => 0) 0 0 k j = f j := by
  rw [pk_cpy_in (Nat.zero_le _) (by omega), show 0 + (j - 0) = j by omega]
set_option maxRecDepth 100000 in
set_option maxHeartbeats 400000 in
theorem c_jco {g : pr_C} {l : Launch} (hl : l.stackTraces = false) {T : pr_T} {I : pr_I} {L : pr_L} {v m n : Nat} (h10 : T.2.1 v = (22, m)) (hv : v < T.1) (hm : m ≤ 700) (hn : n ≤ 1100) (hmn : m < n) (hf : jBt m (I v)) : pr_M g l 2 1 n mJ7_copyOf_9075b [.ref v, .int (nI n)] T I L (pr_R (some (.ref T.1)) (pr_new T 22 n) (pr_row I T.1 (va_cpy (I v) (fun _ => 0) 0 0 m)) L) pr_no := by
  refine pr_ofG (by decide) rfl hl (Nat.le_of_ble_eq_true rfl) (fun X hA hX hXn hXt => ?_)
  subst hX
  show pr_G g X mJ7_copyOf_9075b.2.2.1 _ 0 0 0 [.ref v, .int (nI n), .null] [] T I L
  refine pr_iload_n hA dJ7_copyOf_9075b_0 rfl ?_
  refine pr_aload_n hA dJ7_copyOf_9075b_1 rfl ?_
  refine pr_alenB hA h10 dJ7_copyOf_9075b_2 ?_
  refine pr_icmp_ne hA 14 dJ7_copyOf_9075b_3 (by decide) (fun _ => ?_) (fun c_3 => absurd c_3 (fun q9 => by have := (nI_eq (by omega) (by omega)).mp q9; omega))
  refine pr_iload_n hA dJ7_copyOf_9075b_14 rfl ?_
  refine pr_newB hA n kY_byte (nI_pos (by omega)) (nI_clamp (by omega)) (by omega) (Nat.le_refl _) (by omega) dJ7_copyOf_9075b_15 ?_
  refine pr_astore_n (ls' := [_, _, _]) hA dJ7_copyOf_9075b_17 (by decide) rfl ?_
  refine pr_aload_n hA dJ7_copyOf_9075b_18 rfl ?_
  refine pr_iconst hA (0) dJ7_copyOf_9075b_19 (by decide) ?_
  refine pr_aload_n hA dJ7_copyOf_9075b_20 rfl ?_
  refine pr_iconst hA (0) dJ7_copyOf_9075b_21 (by decide) ?_
  refine pr_aload_n hA dJ7_copyOf_9075b_22 rfl ?_
  refine pr_alenB hA ((if_neg (Nat.ne_of_lt hv)).trans h10) dJ7_copyOf_9075b_23 ?_
  refine pr_iload_n hA dJ7_copyOf_9075b_24 rfl ?_
  refine pr_mmin hA rfl ⟨kM_J7_304, kT_J9_min_7cf53, kZ_J9, kO_J9_min_7cf53⟩ (by decide) (by omega) (by omega) (Nat.le_of_ble_eq_true rfl) dJ7_copyOf_9075b_25 ?_
  refine pr_topE (z := nI m) ((jmin (by omega) (by omega)).trans (by rw [Nat.min_eq_left (by omega)])) ?_
  have eI : pr_row I T.1 (fun _ => 0) v = I v := pr_row_ne (Nat.ne_of_lt hv)
  have cl : (nI m).toNatClampNeg = m := nI_clamp (by omega)
  refine pr_copyB (n0 := m) (n1 := n) hA rfl ⟨kM_J7_150, kN_System_arraycopy__Ljava_lang_Object_ILjava_lang_Object_II_V, kT_System_arraycopy__Ljava_lang_Object_ILjava_lang_Object_II_V, kZ_J10⟩ (by decide) ((if_neg (Nat.ne_of_lt hv)).trans h10) (if_pos rfl) (by decide) (by decide) (nI_pos (by omega)) (by rw [cl]; exact Nat.le_of_eq (Nat.zero_add _)) (by rw [cl]; show 0 + m ≤ n; omega) (fun i hi => by rw [cl] at hi; rw [eI]; show fits .byte (.int (I v (0 + i))) = true; rw [Nat.zero_add]; exact hf i hi) (Nat.le_of_ble_eq_true rfl) dJ7_copyOf_9075b_28 ?_
  rw [eI, pr_row_eq, cl]
  refine pr_gI (I' := pr_row I T.1 (va_cpy (I v) (fun _ => 0) 0 0 m)) (by funext a; by_cases e : a = T.1 <;> simp [pr_row, e] <;> rfl) ?_
  refine pr_aload_n hA dJ7_copyOf_9075b_31 rfl ?_
  exact pr_areturn hA rfl (Or.inr ⟨_, rfl⟩) (by omega) (by omega) dJ7_copyOf_9075b_32 ⟨rfl, rfl, rfl, rfl⟩
def jEns (z b : Nat) (tx : List Nat) (q : Nat) (T : pr_T) (I : pr_I) (L : pr_L) : Option Value → pr_T → pr_I → pr_L → Prop := fun v' T' I' L' => v' = none ∧ jF z b T I T' I' ∧ L' = L ∧ jB z b tx q T' I'
set_option maxRecDepth 100000 in
set_option maxHeartbeats 400000 in
theorem c_jens {g : pr_C} {l : Launch} (hl : l.stackTraces = false) {T : pr_T} {I : pr_I} {L : pr_L} {z b c q : Nat} {tx : List Nat} (h : jB z b tx c T I) (hq : q ≤ 300) : pr_M g l 4 1 700 mJ5_ensureCapacityInternal_d00df [.ref b, .int (nI q)] T I L (jEns z b tx q T I L) pr_no := by
  obtain ⟨v, m, h1, h2, h3, h4, h5, h6, h7, h8, h9, h10, h11, h12, h13, h14, h15, h16⟩ := h
  refine pr_ofG (by decide) rfl hl (Nat.le_of_ble_eq_true rfl) (fun X hA hX hXn hXt => ?_)
  subst hX
  show pr_G g X mJ5_ensureCapacityInternal_d00df.2.2.1 _ 0 0 0 [.ref b, .int (nI q), .null] [] T I L
  refine pr_aload_n hA dJ5_ensureCapacityInternal_d00df_0 rfl ?_
  refine pr_getJR hA jC8 (by decide) rfl jfk_v h6 h7 dJ5_ensureCapacityInternal_d00df_1 ?_
  refine pr_alenB hA h10 dJ5_ensureCapacityInternal_d00df_4 ?_
  refine pr_aload_n hA dJ5_ensureCapacityInternal_d00df_5 rfl ?_
  refine pr_getJI (v := 0) hA jC8 (by decide) rfl jfk_c h6 h8 dJ5_ensureCapacityInternal_d00df_6 ?_
  refine pr_ishr hA dJ5_ensureCapacityInternal_d00df_9 ?_
  refine pr_topE (z := nI m) (sb_shr0 _) ?_
  refine pr_istore_n (ls' := [_, _, _]) hA dJ5_ensureCapacityInternal_d00df_10 (by decide) rfl ?_
  refine pr_iload_n hA dJ5_ensureCapacityInternal_d00df_11 rfl ?_
  refine pr_iload_n hA dJ5_ensureCapacityInternal_d00df_12 rfl ?_
  refine pr_isub hA dJ5_ensureCapacityInternal_d00df_13 ?_
  have e1 : (nI q - nI m).toInt = (q : Int) - m := pk_sub_toInt (by omega) (by omega)
  refine pr_if_le hA 38 dJ5_ensureCapacityInternal_d00df_14 (by decide) (fun c9 => ?_) (fun c9 => ?_)
  · have hc : q ≤ m := by rw [Int32.le_iff_toInt_le, e1, Int32.toInt_zero] at c9; omega
    exact pr_return hA rfl (Nat.zero_le _) (Nat.zero_le _) dJ5_ensureCapacityInternal_d00df_38 ⟨rfl, jF.rf, rfl, v, m, h1, h2, h3, h4, h5, h6, h7, h8, h9, h10, h11, hc, h13, h14, h15, h16⟩
  · have hc : m < q := by rw [Int32.le_iff_toInt_le, e1, Int32.toInt_zero] at c9; omega
    have hmx : max (q - m) (m + 2) ≤ 302 := Nat.max_le.mpr ⟨by omega, by omega⟩
    have hmq : q - m ≤ max (q - m) (m + 2) := Nat.le_max_left _ _
    have hm2 : m + 2 ≤ max (q - m) (m + 2) := Nat.le_max_right _ _
    obtain ⟨k, hk⟩ : ∃ k, m + max (q - m) (m + 2) = k := ⟨_, rfl⟩
    refine pr_aload_n hA dJ5_ensureCapacityInternal_d00df_17 rfl ?_
    refine pr_aload_n hA dJ5_ensureCapacityInternal_d00df_18 rfl ?_
    refine pr_getJR hA jC8 (by decide) rfl jfk_v h6 h7 dJ5_ensureCapacityInternal_d00df_19 ?_
    refine pr_aload_n hA dJ5_ensureCapacityInternal_d00df_22 rfl ?_
    refine pr_iload_n hA dJ5_ensureCapacityInternal_d00df_23 rfl ?_
    refine pr_callP (n := 1) hA rfl (As := [.int (nI q)]) (c_jnc (pr_hl hA) h6 h7 h8 h10 hc hq) ⟨kM_J5_104, rfl, by decide +kernel, ⟨_, _, _, kO_J5_newCapacity_0f7a4⟩, kI_J5_newCapacity_0f7a4, kZ_J5, kO_J5_newCapacity_0f7a4, kI_J5_newCapacity_0f7a4, by decide +kernel, by decide, rfl⟩ (by decide +kernel) h6 rfl (by decide) (Nat.zero_le _) (Nat.zero_le _) rfl (Nat.le_of_ble_eq_true rfl) dJ5_ensureCapacityInternal_d00df_24 (fun v9 T9 I9 L9 q9 => ?_)
    obtain ⟨rfl, e7, e8, e9⟩ := q9; obtain rfl := e7.symm; obtain rfl := e8.symm; obtain rfl := e9.symm
    rw [hk]
    show pr_G g X _ _ 0 0 27 _ (.int (nI k) :: _) _ _ _
    refine pr_aload_n hA dJ5_ensureCapacityInternal_d00df_27 rfl ?_
    refine pr_getJI (v := 0) hA jC8 (by decide) rfl jfk_c h6 h8 dJ5_ensureCapacityInternal_d00df_28 ?_
    refine pr_ishl hA dJ5_ensureCapacityInternal_d00df_31 ?_
    refine pr_topE (z := nI k) (jshl0 _) ?_
    refine pr_callS hA rfl (As := [.ref v, .int (nI k)]) (c_jco (pr_hl hA) h10 h4 h13 (by omega) (by omega) h14) s_J5_108 rfl (by decide) (Nat.le_refl _) (by omega) rfl (Nat.le_of_ble_eq_true rfl) dJ5_ensureCapacityInternal_d00df_32 (fun v9 T9 I9 L9 q9 => ?_) (fun _ _ _ _ q9 => q9.elim)
    obtain ⟨rfl, e7, e8, e9⟩ := q9; obtain rfl := e7.symm; obtain rfl := e8.symm; obtain rfl := e9.symm
    refine pr_putJR hA jC8 (by decide) rfl rfl rfl rfl jfk_v ((if_neg (Nat.ne_of_lt h2)).trans h6) dJ5_ensureCapacityInternal_d00df_35 ?_
    refine pr_return hA rfl (Nat.le_refl _) (by omega) dJ5_ensureCapacityInternal_d00df_38 ⟨rfl, ⟨Nat.le_succ _, fun a ha hab => ⟨if_neg (by omega), ?_, pr_row_ne (by omega)⟩⟩, rfl, T.1, k, Nat.le_succ_of_le h1, Nat.lt_succ_of_lt h2, by omega, Nat.lt_succ_self _, by omega, (if_neg (Nat.ne_of_lt h2)).trans h6, if_pos ⟨rfl, rfl⟩, (congrFun (pr_row_ne (Nat.ne_of_lt h2)) _).trans h8, (congrFun (pr_row_ne (Nat.ne_of_lt h2)) _).trans h9, if_pos rfl, by omega, by omega, by omega, ?_, fun j hj => ?_, h16⟩
    · funext j
      show (if a = b ∧ j = 0 then _ else if a = T.1 then none else T.2.2 a j) = T.2.2 a j
      rw [if_neg (fun q9 => hab q9.1), if_neg (by omega)]
    · rw [pr_row_eq]; exact jcpy0 (by omega) h14
    · rw [pr_row_eq, jcpy1 (by omega)]; exact h15 j hj
