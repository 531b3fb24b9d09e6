/-! A CHAR, AN INT BEHIND THE TEXT -/
def jApp (z b : Nat) (tx : List Nat) (T : pr_T) (I : pr_I) (L : pr_L) : Option Value → pr_T → pr_I → pr_L → Prop := fun v' T' I' L' => v' = some (.ref b) ∧ jF z b T I T' I' ∧ L' = L ∧ jB z b tx 0 T' I'
theorem jb7 : ∀ c, c < 128 → (nI c).toInt8.toInt32 = nI c := by decide +kernel
theorem jbf : ∀ c, c < 128 → fits .byte (.int (nI c)) = true := by decide +kernel
theorem jbn {c : Nat} (h : c < 128) : vp_nar .byte (nI c) = nI c := by
  have e := pk_vb (nI c)
  rw [jb7 c h] at e; exact e
theorem jget1 {tx : List Nat} {y : List Nat} {j : Nat} (h : j < tx.length) : (tx ++ y).getD j 0 = tx.getD j 0 := by
  rw [List.getD_eq_getElem?_getD, List.getD_eq_getElem?_getD, List.getElem?_append_left h]
theorem jget2 {tx : List Nat} {y : List Nat} {j : Nat} (h : tx.length ≤ j) : (tx ++ y).getD j 0 = y.getD (j - tx.length) 0 := by
  rw [List.getD_eq_getElem?_getD, List.getD_eq_getElem?_getD, List.getElem?_append_right h]
/-- new letters behind the text, and the new count -/
theorem jB.put {z b : Nat} {tx y : List Nat} {T : pr_T} {I' : pr_I} {v m : Nat} (h1 : z ≤ T.1) (h2 : b < T.1) (h3 : z ≤ v) (h4 : v < T.1) (h5 : v ≠ b) (h6 : T.2.1 b = (8, 0)) (h7 : T.2.2 b 0 = some v) (h10 : T.2.1 v = (22, m)) (h13 : m ≤ 700) (h8 : I' b 1 = 0) (h9 : I' b 3 = nI (tx.length + y.length)) (hm : tx.length + y.length ≤ m) (hb : jBt m (I' v)) (ho : ∀ j, j < tx.length → I' v j = nI (tx.getD j 0)) (hn : ∀ j, j < y.length → I' v (tx.length + j) = nI (y.getD j 0)) (h16 : ∀ x ∈ tx, x < 128) (hy : ∀ x ∈ y, x < 128) : jB z b (tx ++ y) 0 T I' := by
  refine ⟨v, m, h1, h2, h3, h4, h5, h6, h7, h8, by rw [List.length_append]; exact h9, h10, by rw [List.length_append]; exact hm, Nat.zero_le _, h13, hb, fun j hj => ?_, fun x hx => ?_⟩
  · rw [List.length_append] at hj
    by_cases c : j < tx.length
    · rw [jget1 c]; exact ho j c
    · rw [jget2 (by omega)]
      have := hn (j - tx.length) (by omega)
      rw [show tx.length + (j - tx.length) = j by omega] at this
      exact this
  · rcases List.mem_append.mp hx with q | q
    · exact h16 x q
    · exact hy x q
set_option maxRecDepth 100000 in
set_option maxHeartbeats 400000 in
theorem c_jce {g : pr_C} {l : Launch} (hl : l.stackTraces = false) {T : pr_T} {I : pr_I} {L : pr_L} {c : Nat} (hc : c < 128) : pr_M g l 1 0 0 mJ1_canEncode_fc78d [.int (nI c)] T I L (pr_R (some (.int 1)) T I L) pr_no := by
  refine pr_ofG (by decide) rfl hl (Nat.le_of_ble_eq_true rfl) (fun X hA hX hXn hXt => ?_)
  subst hX
  show pr_G g X mJ1_canEncode_fc78d.2.2.1 _ 0 0 0 [.int (nI c)] [] T I L
  refine pr_iload_n hA dJ1_canEncode_fc78d_0 rfl ?_
  refine pr_sipush hA (nI 255) dJ1_canEncode_fc78d_1 (by decide) ?_
  refine pr_icmp_gt hA 11 dJ1_canEncode_fc78d_4 (by decide) (fun c_4 => absurd c_4 (fun q9 => by have := (nI_ltI (by omega) (by omega)).mp q9; omega)) (fun _ => ?_)
  refine pr_iconst hA (1) dJ1_canEncode_fc78d_7 (by decide) ?_
  refine pr_goto hA 12 dJ1_canEncode_fc78d_8 (by decide) ?_
  exact pr_ireturn hA rfl rfl (Nat.zero_le _) (Nat.zero_le _) dJ1_canEncode_fc78d_12 ⟨rfl, rfl, rfl, rfl⟩
set_option maxRecDepth 100000 in
set_option maxHeartbeats 400000 in
theorem c_jac {g : pr_C} {l : Launch} (hl : l.stackTraces = false) {T : pr_T} {I : pr_I} {L : pr_L} {z b c : Nat} {tx : List Nat} (h0 : jB z b tx 0 T I) (hn : tx.length + 1 ≤ 300) (hc : c < 128) : pr_M g l 5 1 700 mJ5_append_3fe6f [.ref b, .int (nI c)] T I L (jApp z b (tx ++ [c]) T I L) pr_no := by
  have h00 := h0
  obtain ⟨v0, m0, g1, g2, g3, g4, g5, g6, g7, g8, g9, g10, g11, g12, g13, g14, g15, g16⟩ := h00
  refine pr_ofG (by decide) rfl hl (Nat.le_of_ble_eq_true rfl) (fun X hA hX hXn hXt => ?_)
  subst hX
  show pr_G g X mJ5_append_3fe6f.2.2.1 _ 0 0 0 [.ref b, .int (nI c)] [] T I L
  refine pr_aload_n hA dJ5_append_3fe6f_0 rfl ?_
  refine pr_aload_n hA dJ5_append_3fe6f_1 rfl ?_
  refine pr_getJI (v := nI tx.length) hA jC8 (by decide) rfl jfk_n g6 g9 dJ5_append_3fe6f_2 ?_
  refine pr_iconst hA (1) dJ5_append_3fe6f_5 (by decide) ?_
  refine pr_iadd hA dJ5_append_3fe6f_6 ?_
  refine pr_topE (z := nI (tx.length + 1)) (nI_1 _) ?_
  refine pr_callP (n := 1) hA rfl (As := [.int (nI (tx.length + 1))]) (c_jens (pr_hl hA) h0 hn) ⟨kM_J5_100, rfl, by decide +kernel, ⟨_, _, _, kO_J5_ensureCapacityInternal_d00df⟩, kI_J5_ensureCapacityInternal_d00df, kZ_J5, kO_J5_ensureCapacityInternal_d00df, kI_J5_ensureCapacityInternal_d00df, by decide +kernel, by decide, rfl⟩ (by decide +kernel) h0.k rfl (by decide) (Nat.le_refl _) (Nat.le_refl _) rfl (Nat.le_of_ble_eq_true rfl) dJ5_append_3fe6f_7 (fun v9 T9 I9 L9 q9 => ?_)
  obtain ⟨rfl, hF, rfl, h⟩ := q9
  have hj := h
  obtain ⟨v, m, h1, h2, h3, h4, h5, h6, h7, h8, h9, h10, h11, h12, h13, h14, h15, h16⟩ := h
  show pr_G g X _ _ 1 700 10 _ _ T9 I9 _
  refine pr_aload_n hA dJ5_append_3fe6f_10 rfl ?_
  refine pr_callU (n := 0) hA rfl (As := []) (c_jlat (pr_hl hA) hj) ⟨kM_J5_83, rfl, by decide +kernel, ⟨_, _, _, kO_J5_isLatin1_aae02⟩, kI_J5_isLatin1_aae02, kZ_J5, kO_J5_isLatin1_aae02, kI_J5_isLatin1_aae02, by decide +kernel, by decide, rfl⟩ jgw_lat h6 rfl (by decide) (Nat.le_refl _) (Nat.le_refl _) rfl (Nat.le_of_ble_eq_true rfl) dJ5_append_3fe6f_11 (fun v9 T8 I8 L8 q9 => ?_)
  obtain ⟨rfl, e7, e8, e9⟩ := q9; obtain rfl := e7.symm; obtain rfl := e8.symm; obtain rfl := e9.symm
  show pr_G g X _ _ 1 700 14 _ (.int 1 :: _) T9 I9 _
  refine pr_if_eq hA 45 dJ5_append_3fe6f_14 (by decide) (fun c_14 => absurd c_14 (by decide)) (fun _ => ?_)
  refine pr_iload_n hA dJ5_append_3fe6f_17 rfl ?_
  refine pr_callSi hA [.int (nI c)] (c_jce (pr_hl hA) hc) s_J5_191 rfl (by decide) (Nat.le_refl _) (Nat.le_refl _) rfl (Nat.le_of_ble_eq_true rfl) dJ5_append_3fe6f_18 ?_
  refine pr_if_eq hA 45 dJ5_append_3fe6f_21 (by decide) (fun c_21 => absurd c_21 (by decide)) (fun _ => ?_)
  refine pr_aload_n hA dJ5_append_3fe6f_24 rfl ?_
  refine pr_getJR hA jC8 (by decide) rfl jfk_v h6 h7 dJ5_append_3fe6f_25 ?_
  refine pr_aload_n hA dJ5_append_3fe6f_28 rfl ?_
  refine pr_dup hA dJ5_append_3fe6f_29 rfl ?_
  refine pr_getJI (v := nI tx.length) hA jC8 (by decide) rfl jfk_n h6 h9 dJ5_append_3fe6f_30 ?_
  refine pr_dup_x1 hA dJ5_append_3fe6f_33 rfl rfl ?_
  refine pr_iconst hA (1) dJ5_append_3fe6f_34 (by decide) ?_
  refine pr_iadd hA dJ5_append_3fe6f_35 ?_
  refine pr_topE (z := nI (tx.length + 1)) (nI_1 _) ?_
  refine pr_putJI hA jC8 (by decide) rfl rfl rfl rfl jfk_n h6 dJ5_append_3fe6f_36 ?_
  refine pr_iload_n hA dJ5_append_3fe6f_39 rfl ?_
  refine pr_i2b hA dJ5_append_3fe6f_40 ?_
  refine pr_topE (z := nI c) (jb7 c hc) ?_
  refine pr_bast (n := m) hA h10 (nI_vin (by omega) (by omega)) dJ5_append_3fe6f_41 ?_
  rw [nI_clamp (by omega), jbn hc]
  refine pr_goto hA 75 dJ5_append_3fe6f_42 (by decide) ?_
  refine pr_aload_n hA dJ5_append_3fe6f_75 rfl ?_
  refine pr_areturn hA rfl (Or.inl ⟨_, rfl⟩) (Nat.le_refl _) (Nat.le_refl _) dJ5_append_3fe6f_76 ⟨rfl, hF.trans ⟨Nat.le_refl _, fun a ha hab => ⟨rfl, rfl, ?_⟩⟩, rfl, jB.put h1 h2 h3 h4 h5 h6 h7 h10 h13 ?_ ?_ h12 ?_ ?_ ?_ h16 ?_⟩
  · rw [pr_up_ne (by omega), pr_up_ne (by omega)]
  · rw [pr_upv (Ne.symm h5), pr_upk (by decide)]; exact h8
  · rw [pr_upv (Ne.symm h5), pr_upe]; rfl
  · intro j hj
    by_cases e : j = tx.length
    · rw [e, pr_upe]; exact jbf c hc
    · rw [pr_upk e, pr_upv h5]; exact h14 j hj
  · intro j hj
    rw [pr_upk (by omega), pr_upv h5]; exact h15 j hj
  · intro j hj
    have : j = 0 := by simp at hj; exact hj
    subst this
    exact pr_upe (I := pr_up I9 b 3 (nI (tx.length + 1))) (a := v) (k := tx.length) (v := nI c)
  · intro x hx
    rw [List.mem_singleton.mp hx]; exact hc
def jdg (v : Nat) : Nat := if v < 10 then 1 else if v < 100 then 2 else 3
def jdec (v : Nat) : List Nat := if v < 10 then [48 + v] else if v < 100 then [48 + v / 10, 48 + v % 10] else [48 + v / 100, 48 + v / 10 % 10, 48 + v % 10]
theorem jdec_len (v : Nat) : (jdec v).length = jdg v := by unfold jdec jdg; split; · rfl
                                                           split <;> rfl
theorem jdec_lt {v : Nat} (hv : v < 1000) : ∀ x ∈ jdec v, x < 128 := by
  intro x hx
  unfold jdec at hx
  split at hx
  · simp at hx; omega
  · split at hx
    · simp at hx; omega
    · simp at hx; omega
theorem jdg_3 (v : Nat) : jdg v ≤ 3 := by unfold jdg; split; · omega
                                          split <;> omega
theorem jn1 : ∀ v, v < 1000 → 100 ≤ v → (-(nI v)) / 100 = -(nI (v / 100)) ∧ (-(nI (v / 100))) * 100 - (-(nI v)) = nI (v % 100) := by decide +kernel
theorem jn2 : ∀ v, v < 1000 → (((-100 : Int32) < -(nI v)) ↔ v < 100) := by decide +kernel
theorem jn3 : ∀ v, v < 1000 → (((-9 : Int32) ≤ -(nI v)) ↔ v < 10) := by decide +kernel
theorem jn4 : ∀ v, v < 1000 → ((-(nI v) ≤ (-10 : Int32)) ↔ 10 ≤ v) ∧ ((-(nI v) ≤ (-100 : Int32)) ↔ 100 ≤ v) ∧ ((-(nI v) ≤ (-1000 : Int32)) ↔ 1000 ≤ v) := by decide +kernel
theorem jnn (v : Nat) : -(-(nI v)) = nI v := Int32.neg_neg
theorem jdd : ∀ i, i < 2 → ∀ j, j < 100 → vp_nar .byte (pr_dg i j) = pr_dg i j ∧ fits .byte (.int (pr_dg i j)) = true := by decide +kernel
theorem jpd (n : Nat) : nI (n + 1) + Int32.ofInt (-1) = nI n := nI_dec n
set_option maxRecDepth 100000 in
set_option maxHeartbeats 400000 in
theorem c_jss {g : pr_C} {l : Launch} (hl : l.stackTraces = false) {T : pr_T} {I : pr_I} {L : pr_L} {v : Nat} (hv : v < 1000) : pr_M g l 1 0 0 mJ6_stringSize_0f7a4 [.int (nI v)] T I L (pr_R (some (.int (nI (jdg v)))) T I L) pr_no := by
  refine pr_ofG (by decide) rfl hl (Nat.le_of_ble_eq_true rfl) (fun X hA hX hXn hXt => ?_)
  subst hX
  show pr_G g X mJ6_stringSize_0f7a4.2.2.1 _ 0 0 0 [.int (nI v), .null, .null, .null] [] T I L
  rcases (by omega : v < 10 ∨ (10 ≤ v ∧ v < 100) ∨ (100 ≤ v ∧ v < 1000)) with hc | ⟨hb, hc⟩ | ⟨hb, hc⟩
  · skip
    refine pr_iconst hA (1) dJ6_stringSize_0f7a4_0 (by decide) ?_
    refine pr_istore_n (ls' := [_, _, _, _]) hA dJ6_stringSize_0f7a4_1 (by decide) rfl ?_
    refine pr_iload_n hA dJ6_stringSize_0f7a4_2 rfl ?_
    refine pr_if_lt hA 11 dJ6_stringSize_0f7a4_3 (by decide) (fun c_3 => absurd c_3 (nI_pos (by omega))) (fun _ => ?_)
    refine pr_iconst hA (0) dJ6_stringSize_0f7a4_6 (by decide) ?_
    refine pr_istore_n (ls' := [_, _, _, _]) hA dJ6_stringSize_0f7a4_7 (by decide) rfl ?_
    refine pr_iload_n hA dJ6_stringSize_0f7a4_8 rfl ?_
    refine pr_ineg hA dJ6_stringSize_0f7a4_9 ?_
    refine pr_topE (z := -(nI v)) rfl ?_
    refine pr_istore_n (ls' := [_, _, _, _]) hA dJ6_stringSize_0f7a4_10 (by decide) rfl ?_
    refine pr_bipush hA ((-10 : Int32)) dJ6_stringSize_0f7a4_11 (by decide) ?_
    refine pr_istore_n (ls' := [_, _, _, _]) hA dJ6_stringSize_0f7a4_13 (by decide) rfl ?_
    refine pr_iconst hA (1) dJ6_stringSize_0f7a4_14 (by decide) ?_
    refine pr_istore_n (ls' := [_, _, _, _]) hA dJ6_stringSize_0f7a4_15 (by decide) rfl ?_
    refine pr_iload_n hA dJ6_stringSize_0f7a4_16 rfl ?_
    refine pr_bipush hA (10) dJ6_stringSize_0f7a4_17 (by decide) ?_
    refine pr_icmp_ge hA 42 dJ6_stringSize_0f7a4_19 (by decide) (fun c_19 => absurd c_19 (by decide)) (fun _ => ?_)
    refine pr_iload_n hA dJ6_stringSize_0f7a4_22 rfl ?_
    refine pr_iload_n hA dJ6_stringSize_0f7a4_23 rfl ?_
    refine pr_icmp_le hA 31 dJ6_stringSize_0f7a4_24 (by decide) (fun c_24 => absurd c_24 (fun q9 => by have := (jn4 v hv).1.mp q9; omega)) (fun _ => ?_)
    refine pr_iload_n hA dJ6_stringSize_0f7a4_27 rfl ?_
    refine pr_iload_n hA dJ6_stringSize_0f7a4_28 rfl ?_
    refine pr_iadd hA dJ6_stringSize_0f7a4_29 ?_
    refine pr_topE (z := nI (jdg v)) (by unfold jdg; rw [if_pos hc]; decide) ?_
    exact pr_ireturn hA rfl rfl (Nat.zero_le _) (Nat.zero_le _) dJ6_stringSize_0f7a4_30 ⟨rfl, rfl, rfl, rfl⟩
  · skip
    refine pr_iconst hA (1) dJ6_stringSize_0f7a4_0 (by decide) ?_
    refine pr_istore_n (ls' := [_, _, _, _]) hA dJ6_stringSize_0f7a4_1 (by decide) rfl ?_
    refine pr_iload_n hA dJ6_stringSize_0f7a4_2 rfl ?_
    refine pr_if_lt hA 11 dJ6_stringSize_0f7a4_3 (by decide) (fun c_3 => absurd c_3 (nI_pos (by omega))) (fun _ => ?_)
    refine pr_iconst hA (0) dJ6_stringSize_0f7a4_6 (by decide) ?_
    refine pr_istore_n (ls' := [_, _, _, _]) hA dJ6_stringSize_0f7a4_7 (by decide) rfl ?_
    refine pr_iload_n hA dJ6_stringSize_0f7a4_8 rfl ?_
    refine pr_ineg hA dJ6_stringSize_0f7a4_9 ?_
    refine pr_topE (z := -(nI v)) rfl ?_
    refine pr_istore_n (ls' := [_, _, _, _]) hA dJ6_stringSize_0f7a4_10 (by decide) rfl ?_
    refine pr_bipush hA ((-10 : Int32)) dJ6_stringSize_0f7a4_11 (by decide) ?_
    refine pr_istore_n (ls' := [_, _, _, _]) hA dJ6_stringSize_0f7a4_13 (by decide) rfl ?_
    refine pr_iconst hA (1) dJ6_stringSize_0f7a4_14 (by decide) ?_
    refine pr_istore_n (ls' := [_, _, _, _]) hA dJ6_stringSize_0f7a4_15 (by decide) rfl ?_
    refine pr_iload_n hA dJ6_stringSize_0f7a4_16 rfl ?_
    refine pr_bipush hA (10) dJ6_stringSize_0f7a4_17 (by decide) ?_
    refine pr_icmp_ge hA 42 dJ6_stringSize_0f7a4_19 (by decide) (fun c_19 => absurd c_19 (by decide)) (fun _ => ?_)
    refine pr_iload_n hA dJ6_stringSize_0f7a4_22 rfl ?_
    refine pr_iload_n hA dJ6_stringSize_0f7a4_23 rfl ?_
    refine pr_icmp_le hA 31 dJ6_stringSize_0f7a4_24 (by decide) (fun _ => ?_) (fun c_24 => absurd ((jn4 v hv).1.mpr (by omega)) c_24)
    refine pr_bipush hA (10) dJ6_stringSize_0f7a4_31 (by decide) ?_
    refine pr_iload_n hA dJ6_stringSize_0f7a4_33 rfl ?_
    refine pr_imul hA dJ6_stringSize_0f7a4_34 ?_
    refine pr_topE (z := (-100 : Int32)) (by decide) ?_
    refine pr_istore_n (ls' := [_, _, _, _]) hA dJ6_stringSize_0f7a4_35 (by decide) rfl ?_
    refine pr_iinc (ls' := [_, _, _, _]) hA ((2 : Int32)) dJ6_stringSize_0f7a4_36 (by decide) rfl (by decide) rfl ?_
    refine pr_goto hA 16 dJ6_stringSize_0f7a4_39 (by decide) ?_
    refine pr_iload_n hA dJ6_stringSize_0f7a4_16 rfl ?_
    refine pr_bipush hA (10) dJ6_stringSize_0f7a4_17 (by decide) ?_
    refine pr_icmp_ge hA 42 dJ6_stringSize_0f7a4_19 (by decide) (fun c_19 => absurd c_19 (by decide)) (fun _ => ?_)
    refine pr_iload_n hA dJ6_stringSize_0f7a4_22 rfl ?_
    refine pr_iload_n hA dJ6_stringSize_0f7a4_23 rfl ?_
    refine pr_icmp_le hA 31 dJ6_stringSize_0f7a4_24 (by decide) (fun c_24 => absurd c_24 (fun q9 => by have := (jn4 v hv).2.1.mp q9; omega)) (fun _ => ?_)
    refine pr_iload_n hA dJ6_stringSize_0f7a4_27 rfl ?_
    refine pr_iload_n hA dJ6_stringSize_0f7a4_28 rfl ?_
    refine pr_iadd hA dJ6_stringSize_0f7a4_29 ?_
    refine pr_topE (z := nI (jdg v)) (by unfold jdg; rw [if_neg (by omega), if_pos hc]; decide) ?_
    exact pr_ireturn hA rfl rfl (Nat.zero_le _) (Nat.zero_le _) dJ6_stringSize_0f7a4_30 ⟨rfl, rfl, rfl, rfl⟩
  · skip
    refine pr_iconst hA (1) dJ6_stringSize_0f7a4_0 (by decide) ?_
    refine pr_istore_n (ls' := [_, _, _, _]) hA dJ6_stringSize_0f7a4_1 (by decide) rfl ?_
    refine pr_iload_n hA dJ6_stringSize_0f7a4_2 rfl ?_
    refine pr_if_lt hA 11 dJ6_stringSize_0f7a4_3 (by decide) (fun c_3 => absurd c_3 (nI_pos (by omega))) (fun _ => ?_)
    refine pr_iconst hA (0) dJ6_stringSize_0f7a4_6 (by decide) ?_
    refine pr_istore_n (ls' := [_, _, _, _]) hA dJ6_stringSize_0f7a4_7 (by decide) rfl ?_
    refine pr_iload_n hA dJ6_stringSize_0f7a4_8 rfl ?_
    refine pr_ineg hA dJ6_stringSize_0f7a4_9 ?_
    refine pr_topE (z := -(nI v)) rfl ?_
    refine pr_istore_n (ls' := [_, _, _, _]) hA dJ6_stringSize_0f7a4_10 (by decide) rfl ?_
    refine pr_bipush hA ((-10 : Int32)) dJ6_stringSize_0f7a4_11 (by decide) ?_
    refine pr_istore_n (ls' := [_, _, _, _]) hA dJ6_stringSize_0f7a4_13 (by decide) rfl ?_
    refine pr_iconst hA (1) dJ6_stringSize_0f7a4_14 (by decide) ?_
    refine pr_istore_n (ls' := [_, _, _, _]) hA dJ6_stringSize_0f7a4_15 (by decide) rfl ?_
    refine pr_iload_n hA dJ6_stringSize_0f7a4_16 rfl ?_
    refine pr_bipush hA (10) dJ6_stringSize_0f7a4_17 (by decide) ?_
    refine pr_icmp_ge hA 42 dJ6_stringSize_0f7a4_19 (by decide) (fun c_19 => absurd c_19 (by decide)) (fun _ => ?_)
    refine pr_iload_n hA dJ6_stringSize_0f7a4_22 rfl ?_
    refine pr_iload_n hA dJ6_stringSize_0f7a4_23 rfl ?_
    refine pr_icmp_le hA 31 dJ6_stringSize_0f7a4_24 (by decide) (fun _ => ?_) (fun c_24 => absurd ((jn4 v hv).1.mpr (by omega)) c_24)
    refine pr_bipush hA (10) dJ6_stringSize_0f7a4_31 (by decide) ?_
    refine pr_iload_n hA dJ6_stringSize_0f7a4_33 rfl ?_
    refine pr_imul hA dJ6_stringSize_0f7a4_34 ?_
    refine pr_topE (z := (-100 : Int32)) (by decide) ?_
    refine pr_istore_n (ls' := [_, _, _, _]) hA dJ6_stringSize_0f7a4_35 (by decide) rfl ?_
    refine pr_iinc (ls' := [_, _, _, _]) hA ((2 : Int32)) dJ6_stringSize_0f7a4_36 (by decide) rfl (by decide) rfl ?_
    refine pr_goto hA 16 dJ6_stringSize_0f7a4_39 (by decide) ?_
    refine pr_iload_n hA dJ6_stringSize_0f7a4_16 rfl ?_
    refine pr_bipush hA (10) dJ6_stringSize_0f7a4_17 (by decide) ?_
    refine pr_icmp_ge hA 42 dJ6_stringSize_0f7a4_19 (by decide) (fun c_19 => absurd c_19 (by decide)) (fun _ => ?_)
    refine pr_iload_n hA dJ6_stringSize_0f7a4_22 rfl ?_
    refine pr_iload_n hA dJ6_stringSize_0f7a4_23 rfl ?_
    refine pr_icmp_le hA 31 dJ6_stringSize_0f7a4_24 (by decide) (fun _ => ?_) (fun c_24 => absurd ((jn4 v hv).2.1.mpr (by omega)) c_24)
    refine pr_bipush hA (10) dJ6_stringSize_0f7a4_31 (by decide) ?_
    refine pr_iload_n hA dJ6_stringSize_0f7a4_33 rfl ?_
    refine pr_imul hA dJ6_stringSize_0f7a4_34 ?_
    refine pr_topE (z := (-1000 : Int32)) (by decide) ?_
    refine pr_istore_n (ls' := [_, _, _, _]) hA dJ6_stringSize_0f7a4_35 (by decide) rfl ?_
    refine pr_iinc (ls' := [_, _, _, _]) hA ((3 : Int32)) dJ6_stringSize_0f7a4_36 (by decide) rfl (by decide) rfl ?_
    refine pr_goto hA 16 dJ6_stringSize_0f7a4_39 (by decide) ?_
    refine pr_iload_n hA dJ6_stringSize_0f7a4_16 rfl ?_
    refine pr_bipush hA (10) dJ6_stringSize_0f7a4_17 (by decide) ?_
    refine pr_icmp_ge hA 42 dJ6_stringSize_0f7a4_19 (by decide) (fun c_19 => absurd c_19 (by decide)) (fun _ => ?_)
    refine pr_iload_n hA dJ6_stringSize_0f7a4_22 rfl ?_
    refine pr_iload_n hA dJ6_stringSize_0f7a4_23 rfl ?_
    refine pr_icmp_le hA 31 dJ6_stringSize_0f7a4_24 (by decide) (fun c_24 => absurd c_24 (fun q9 => by have := (jn4 v hv).2.2.mp q9; omega)) (fun _ => ?_)
    refine pr_iload_n hA dJ6_stringSize_0f7a4_27 rfl ?_
    refine pr_iload_n hA dJ6_stringSize_0f7a4_28 rfl ?_
    refine pr_iadd hA dJ6_stringSize_0f7a4_29 ?_
    refine pr_topE (z := nI (jdg v)) (by unfold jdg; rw [if_neg (by omega), if_neg (by omega)]; decide) ?_
    exact pr_ireturn hA rfl rfl (Nat.zero_le _) (Nat.zero_le _) dJ6_stringSize_0f7a4_30 ⟨rfl, rfl, rfl, rfl⟩
def jGC (I : pr_I) (u p v : Nat) : pr_I := if v < 10 then pr_up I u (p - 1) (nI (48 + v)) else if v < 100 then pr_up (pr_up I u (p - 1) (nI (48 + v % 10))) u (p - 2) (nI (48 + v / 10)) else pr_up (pr_up (pr_up I u (p - 1) (nI (48 + v % 10))) u (p - 2) (nI (48 + v / 10 % 10))) u (p - 3) (nI (48 + v / 100))
set_option maxRecDepth 100000 in
set_option maxHeartbeats 400000 in
theorem c_jgc {g : pr_C} {l : Launch} (hl : l.stackTraces = false) {T : pr_T} {I : pr_I} {L : pr_L} {u m v p : Nat} (hv : v < 1000) (hu : T.2.1 u = (22, m)) (hp : jdg v ≤ p) (hpm : p ≤ m) (hm : m ≤ 700) : pr_M g l 1 0 0 mJ6_getChars_ba4f3 [.int (nI v), .int (nI p), .ref u] T I L (pr_R (some (.int (nI (p - jdg v)))) T (jGC I u p v) L) pr_no := by
  refine pr_ofG (by decide) rfl hl (Nat.le_of_ble_eq_true rfl) (fun X hA hX hXn hXt => ?_)
  subst hX
  show pr_G g X mJ6_getChars_ba4f3.2.2.1 _ 0 0 0 [.int (nI v), .int (nI p), .ref u, .null, .null, .null, .null] [] T I L
  rcases (by omega : v < 10 ∨ (10 ≤ v ∧ v < 100) ∨ (100 ≤ v ∧ v < 1000)) with hc | ⟨hb, hc⟩ | ⟨hb, hc⟩
  · have hp3 : 1 ≤ p := by unfold jdg at hp; rw [if_pos hc] at hp; exact hp
    refine pr_iload_n hA dJ6_getChars_ba4f3_0 rfl ?_
    refine pr_istore (ls' := [_, _, _, _, _, _, _]) hA dJ6_getChars_ba4f3_1 (by decide) rfl ?_
    refine pr_iload_n hA dJ6_getChars_ba4f3_3 rfl ?_
    refine pr_if_ge hA 11 dJ6_getChars_ba4f3_4 (by decide) (fun _ => ?_) (fun c_4 => absurd (nI_pos' (by omega)) c_4)
    refine pr_iconst hA (0) dJ6_getChars_ba4f3_11 (by decide) ?_
    refine pr_istore (ls' := [_, _, _, _, _, _, _]) hA dJ6_getChars_ba4f3_12 (by decide) rfl ?_
    refine pr_iload hA dJ6_getChars_ba4f3_14 rfl ?_
    refine pr_if_ne hA 22 dJ6_getChars_ba4f3_16 (by decide) (fun c_16 => absurd rfl c_16) (fun _ => ?_)
    refine pr_iload_n hA dJ6_getChars_ba4f3_19 rfl ?_
    refine pr_ineg hA dJ6_getChars_ba4f3_20 ?_
    refine pr_topE (z := -(nI v)) rfl ?_
    refine pr_istore_n (ls' := [_, _, _, _, _, _, _]) hA dJ6_getChars_ba4f3_21 (by decide) rfl ?_
    refine pr_iload_n hA dJ6_getChars_ba4f3_22 rfl ?_
    refine pr_bipush hA ((-100 : Int32)) dJ6_getChars_ba4f3_23 (by decide) ?_
    refine pr_icmp_gt hA 72 dJ6_getChars_ba4f3_25 (by decide) (fun _ => ?_) (fun c_25 => absurd ((jn2 v hv).mpr (by omega)) c_25)
    refine pr_aload_n hA dJ6_getChars_ba4f3_72 rfl ?_
    refine pr_iinc (ls' := [_, _, _, _, _, _, _]) hA (nI (p - 1)) dJ6_getChars_ba4f3_73 (by decide) rfl (by rw [show p = ((p - 1)) + 1 by omega]; exact jpd _) rfl ?_
    refine pr_iload hA dJ6_getChars_ba4f3_76 rfl ?_
    refine pr_getsD hA 0 (by decide) kF_J6_83 dJ6_getChars_ba4f3_78 ?_
    refine pr_iload_n hA dJ6_getChars_ba4f3_81 rfl ?_
    refine pr_ineg hA dJ6_getChars_ba4f3_82 ?_
    refine pr_topE (z := nI v) (jnn v) ?_
    refine pr_dald (i := 0) (j := v) hA (by decide) (by omega) dJ6_getChars_ba4f3_83 ?_
    refine pr_bast (n := m) hA hu (nI_vin (by omega) (by omega)) dJ6_getChars_ba4f3_84 ?_
    rw [nI_clamp (by omega), (jdd 0 (by decide) (v) (by omega)).1, show pr_dg 0 (v) = nI (48 + v) from (by show (if 0 = 0 then Int32.ofNat (48 + (v) % 10) else Int32.ofNat (48 + (v) / 10)) = _; rw [if_pos rfl]; exact congrArg nI (by omega))]
    refine pr_iload_n hA dJ6_getChars_ba4f3_85 rfl ?_
    refine pr_bipush hA ((-9 : Int32)) dJ6_getChars_ba4f3_86 (by decide) ?_
    refine pr_icmp_ge hA 104 dJ6_getChars_ba4f3_88 (by decide) (fun _ => ?_) (fun c_88 => absurd ((jn3 v hv).mpr (by omega)) c_88)
    refine pr_iload hA dJ6_getChars_ba4f3_104 rfl ?_
    refine pr_if_eq hA 118 dJ6_getChars_ba4f3_106 (by decide) (fun _ => ?_) (fun c_106 => absurd rfl c_106)
    refine pr_iload hA dJ6_getChars_ba4f3_118 rfl ?_
    refine pr_ireturn hA rfl rfl (Nat.zero_le _) (Nat.zero_le _) dJ6_getChars_ba4f3_120 ⟨?_, rfl, ?_, rfl⟩
    · rw [show jdg v = 1 by unfold jdg; rw [if_pos hc]]
    · unfold jGC; rw [if_pos hc]
  · have hp3 : 2 ≤ p := by unfold jdg at hp; rw [if_neg (by omega), if_pos hc] at hp; exact hp
    refine pr_iload_n hA dJ6_getChars_ba4f3_0 rfl ?_
    refine pr_istore (ls' := [_, _, _, _, _, _, _]) hA dJ6_getChars_ba4f3_1 (by decide) rfl ?_
    refine pr_iload_n hA dJ6_getChars_ba4f3_3 rfl ?_
    refine pr_if_ge hA 11 dJ6_getChars_ba4f3_4 (by decide) (fun _ => ?_) (fun c_4 => absurd (nI_pos' (by omega)) c_4)
    refine pr_iconst hA (0) dJ6_getChars_ba4f3_11 (by decide) ?_
    refine pr_istore (ls' := [_, _, _, _, _, _, _]) hA dJ6_getChars_ba4f3_12 (by decide) rfl ?_
    refine pr_iload hA dJ6_getChars_ba4f3_14 rfl ?_
    refine pr_if_ne hA 22 dJ6_getChars_ba4f3_16 (by decide) (fun c_16 => absurd rfl c_16) (fun _ => ?_)
    refine pr_iload_n hA dJ6_getChars_ba4f3_19 rfl ?_
    refine pr_ineg hA dJ6_getChars_ba4f3_20 ?_
    refine pr_topE (z := -(nI v)) rfl ?_
    refine pr_istore_n (ls' := [_, _, _, _, _, _, _]) hA dJ6_getChars_ba4f3_21 (by decide) rfl ?_
    refine pr_iload_n hA dJ6_getChars_ba4f3_22 rfl ?_
    refine pr_bipush hA ((-100 : Int32)) dJ6_getChars_ba4f3_23 (by decide) ?_
    refine pr_icmp_gt hA 72 dJ6_getChars_ba4f3_25 (by decide) (fun _ => ?_) (fun c_25 => absurd ((jn2 v hv).mpr (by omega)) c_25)
    refine pr_aload_n hA dJ6_getChars_ba4f3_72 rfl ?_
    refine pr_iinc (ls' := [_, _, _, _, _, _, _]) hA (nI (p - 1)) dJ6_getChars_ba4f3_73 (by decide) rfl (by rw [show p = ((p - 1)) + 1 by omega]; exact jpd _) rfl ?_
    refine pr_iload hA dJ6_getChars_ba4f3_76 rfl ?_
    refine pr_getsD hA 0 (by decide) kF_J6_83 dJ6_getChars_ba4f3_78 ?_
    refine pr_iload_n hA dJ6_getChars_ba4f3_81 rfl ?_
    refine pr_ineg hA dJ6_getChars_ba4f3_82 ?_
    refine pr_topE (z := nI v) (jnn v) ?_
    refine pr_dald (i := 0) (j := v) hA (by decide) (by omega) dJ6_getChars_ba4f3_83 ?_
    refine pr_bast (n := m) hA hu (nI_vin (by omega) (by omega)) dJ6_getChars_ba4f3_84 ?_
    rw [nI_clamp (by omega), (jdd 0 (by decide) (v) (by omega)).1, show pr_dg 0 (v) = nI (48 + v % 10) from (by show (if 0 = 0 then Int32.ofNat (48 + (v) % 10) else Int32.ofNat (48 + (v) / 10)) = _; rw [if_pos rfl]; exact congrArg nI (by omega))]
    refine pr_iload_n hA dJ6_getChars_ba4f3_85 rfl ?_
    refine pr_bipush hA ((-9 : Int32)) dJ6_getChars_ba4f3_86 (by decide) ?_
    refine pr_icmp_ge hA 104 dJ6_getChars_ba4f3_88 (by decide) (fun c_88 => absurd c_88 (fun q9 => by have := (jn3 v hv).mp q9; omega)) (fun _ => ?_)
    refine pr_aload_n hA dJ6_getChars_ba4f3_91 rfl ?_
    refine pr_iinc (ls' := [_, _, _, _, _, _, _]) hA (nI (p - 2)) dJ6_getChars_ba4f3_92 (by decide) rfl (by rw [show (p - 1) = ((p - 2)) + 1 by omega]; exact jpd _) rfl ?_
    refine pr_iload hA dJ6_getChars_ba4f3_95 rfl ?_
    refine pr_getsD hA 1 (by decide) kF_J6_87 dJ6_getChars_ba4f3_97 ?_
    refine pr_iload_n hA dJ6_getChars_ba4f3_100 rfl ?_
    refine pr_ineg hA dJ6_getChars_ba4f3_101 ?_
    refine pr_topE (z := nI v) (jnn v) ?_
    refine pr_dald (i := 1) (j := v) hA (by decide) (by omega) dJ6_getChars_ba4f3_102 ?_
    refine pr_bast (n := m) hA hu (nI_vin (by omega) (by omega)) dJ6_getChars_ba4f3_103 ?_
    rw [nI_clamp (by omega), (jdd 1 (by decide) (v) (by omega)).1, show pr_dg 1 (v) = nI (48 + v / 10) from (by show (if 1 = 0 then Int32.ofNat (48 + (v) % 10) else Int32.ofNat (48 + (v) / 10)) = _; rw [if_neg (by decide)]; exact congrArg nI (by omega))]
    refine pr_iload hA dJ6_getChars_ba4f3_104 rfl ?_
    refine pr_if_eq hA 118 dJ6_getChars_ba4f3_106 (by decide) (fun _ => ?_) (fun c_106 => absurd rfl c_106)
    refine pr_iload hA dJ6_getChars_ba4f3_118 rfl ?_
    refine pr_ireturn hA rfl rfl (Nat.zero_le _) (Nat.zero_le _) dJ6_getChars_ba4f3_120 ⟨?_, rfl, ?_, rfl⟩
    · rw [show jdg v = 2 by unfold jdg; rw [if_neg (by omega), if_pos hc]]
    · unfold jGC; rw [if_neg (by omega), if_pos hc]
  · have hp3 : 3 ≤ p := by unfold jdg at hp; rw [if_neg (by omega), if_neg (by omega)] at hp; exact hp
    refine pr_iload_n hA dJ6_getChars_ba4f3_0 rfl ?_
    refine pr_istore (ls' := [_, _, _, _, _, _, _]) hA dJ6_getChars_ba4f3_1 (by decide) rfl ?_
    refine pr_iload_n hA dJ6_getChars_ba4f3_3 rfl ?_
    refine pr_if_ge hA 11 dJ6_getChars_ba4f3_4 (by decide) (fun _ => ?_) (fun c_4 => absurd (nI_pos' (by omega)) c_4)
    refine pr_iconst hA (0) dJ6_getChars_ba4f3_11 (by decide) ?_
    refine pr_istore (ls' := [_, _, _, _, _, _, _]) hA dJ6_getChars_ba4f3_12 (by decide) rfl ?_
    refine pr_iload hA dJ6_getChars_ba4f3_14 rfl ?_
    refine pr_if_ne hA 22 dJ6_getChars_ba4f3_16 (by decide) (fun c_16 => absurd rfl c_16) (fun _ => ?_)
    refine pr_iload_n hA dJ6_getChars_ba4f3_19 rfl ?_
    refine pr_ineg hA dJ6_getChars_ba4f3_20 ?_
    refine pr_topE (z := -(nI v)) rfl ?_
    refine pr_istore_n (ls' := [_, _, _, _, _, _, _]) hA dJ6_getChars_ba4f3_21 (by decide) rfl ?_
    refine pr_iload_n hA dJ6_getChars_ba4f3_22 rfl ?_
    refine pr_bipush hA ((-100 : Int32)) dJ6_getChars_ba4f3_23 (by decide) ?_
    refine pr_icmp_gt hA 72 dJ6_getChars_ba4f3_25 (by decide) (fun c_25 => absurd c_25 (fun q9 => by have := (jn2 v hv).mp q9; omega)) (fun _ => ?_)
    refine pr_iload_n hA dJ6_getChars_ba4f3_28 rfl ?_
    refine pr_bipush hA ((100 : Int32)) dJ6_getChars_ba4f3_29 (by decide) ?_
    refine pr_idiv hA dJ6_getChars_ba4f3_31 (by decide) ?_
    refine pr_topE (z := -(nI (v / 100))) (jn1 v hv (by omega)).1 ?_
    refine pr_istore_n (ls' := [_, _, _, _, _, _, _]) hA dJ6_getChars_ba4f3_32 (by decide) rfl ?_
    refine pr_iload_n hA dJ6_getChars_ba4f3_33 rfl ?_
    refine pr_bipush hA ((100 : Int32)) dJ6_getChars_ba4f3_34 (by decide) ?_
    refine pr_imul hA dJ6_getChars_ba4f3_36 ?_
    refine pr_topE (z := (-(nI (v / 100))) * 100) rfl ?_
    refine pr_iload_n hA dJ6_getChars_ba4f3_37 rfl ?_
    refine pr_isub hA dJ6_getChars_ba4f3_38 ?_
    refine pr_topE (z := nI (v % 100)) (jn1 v hv (by omega)).2 ?_
    refine pr_istore (ls' := [_, _, _, _, _, _, _]) hA dJ6_getChars_ba4f3_39 (by decide) rfl ?_
    refine pr_iload_n hA dJ6_getChars_ba4f3_41 rfl ?_
    refine pr_istore_n (ls' := [_, _, _, _, _, _, _]) hA dJ6_getChars_ba4f3_42 (by decide) rfl ?_
    refine pr_aload_n hA dJ6_getChars_ba4f3_43 rfl ?_
    refine pr_iinc (ls' := [_, _, _, _, _, _, _]) hA (nI (p - 1)) dJ6_getChars_ba4f3_44 (by decide) rfl (by rw [show p = ((p - 1)) + 1 by omega]; exact jpd _) rfl ?_
    refine pr_iload hA dJ6_getChars_ba4f3_47 rfl ?_
    refine pr_getsD hA 0 (by decide) kF_J6_83 dJ6_getChars_ba4f3_49 ?_
    refine pr_iload hA dJ6_getChars_ba4f3_52 rfl ?_
    refine pr_dald (i := 0) (j := v % 100) hA (by decide) (by omega) dJ6_getChars_ba4f3_54 ?_
    refine pr_bast (n := m) hA hu (nI_vin (by omega) (by omega)) dJ6_getChars_ba4f3_55 ?_
    rw [nI_clamp (by omega), (jdd 0 (by decide) (v % 100) (by omega)).1, show pr_dg 0 (v % 100) = nI (48 + v % 10) from (by show (if 0 = 0 then Int32.ofNat (48 + (v % 100) % 10) else Int32.ofNat (48 + (v % 100) / 10)) = _; rw [if_pos rfl]; exact congrArg nI (by omega))]
    refine pr_aload_n hA dJ6_getChars_ba4f3_56 rfl ?_
    refine pr_iinc (ls' := [_, _, _, _, _, _, _]) hA (nI (p - 2)) dJ6_getChars_ba4f3_57 (by decide) rfl (by rw [show (p - 1) = ((p - 2)) + 1 by omega]; exact jpd _) rfl ?_
    refine pr_iload hA dJ6_getChars_ba4f3_60 rfl ?_
    refine pr_getsD hA 1 (by decide) kF_J6_87 dJ6_getChars_ba4f3_62 ?_
    refine pr_iload hA dJ6_getChars_ba4f3_65 rfl ?_
    refine pr_dald (i := 1) (j := v % 100) hA (by decide) (by omega) dJ6_getChars_ba4f3_67 ?_
    refine pr_bast (n := m) hA hu (nI_vin (by omega) (by omega)) dJ6_getChars_ba4f3_68 ?_
    rw [nI_clamp (by omega), (jdd 1 (by decide) (v % 100) (by omega)).1, show pr_dg 1 (v % 100) = nI (48 + v / 10 % 10) from (by show (if 1 = 0 then Int32.ofNat (48 + (v % 100) % 10) else Int32.ofNat (48 + (v % 100) / 10)) = _; rw [if_neg (by decide)]; exact congrArg nI (by omega))]
    refine pr_goto hA 22 dJ6_getChars_ba4f3_69 (by decide) ?_
    refine pr_iload_n hA dJ6_getChars_ba4f3_22 rfl ?_
    refine pr_bipush hA ((-100 : Int32)) dJ6_getChars_ba4f3_23 (by decide) ?_
    refine pr_icmp_gt hA 72 dJ6_getChars_ba4f3_25 (by decide) (fun _ => ?_) (fun c_25 => absurd ((jn2 (v / 100) (by omega)).mpr (by omega)) c_25)
    refine pr_aload_n hA dJ6_getChars_ba4f3_72 rfl ?_
    refine pr_iinc (ls' := [_, _, _, _, _, _, _]) hA (nI (p - 3)) dJ6_getChars_ba4f3_73 (by decide) rfl (by rw [show (p - 2) = ((p - 3)) + 1 by omega]; exact jpd _) rfl ?_
    refine pr_iload hA dJ6_getChars_ba4f3_76 rfl ?_
    refine pr_getsD hA 0 (by decide) kF_J6_83 dJ6_getChars_ba4f3_78 ?_
    refine pr_iload_n hA dJ6_getChars_ba4f3_81 rfl ?_
    refine pr_ineg hA dJ6_getChars_ba4f3_82 ?_
    refine pr_topE (z := nI (v / 100)) (jnn _) ?_
    refine pr_dald (i := 0) (j := v / 100) hA (by decide) (by omega) dJ6_getChars_ba4f3_83 ?_
    refine pr_bast (n := m) hA hu (nI_vin (by omega) (by omega)) dJ6_getChars_ba4f3_84 ?_
    rw [nI_clamp (by omega), (jdd 0 (by decide) (v / 100) (by omega)).1, show pr_dg 0 (v / 100) = nI (48 + v / 100) from (by show (if 0 = 0 then Int32.ofNat (48 + (v / 100) % 10) else Int32.ofNat (48 + (v / 100) / 10)) = _; rw [if_pos rfl]; exact congrArg nI (by omega))]
    refine pr_iload_n hA dJ6_getChars_ba4f3_85 rfl ?_
    refine pr_bipush hA ((-9 : Int32)) dJ6_getChars_ba4f3_86 (by decide) ?_
    refine pr_icmp_ge hA 104 dJ6_getChars_ba4f3_88 (by decide) (fun _ => ?_) (fun c_88 => absurd ((jn3 (v / 100) (by omega)).mpr (by omega)) c_88)
    refine pr_iload hA dJ6_getChars_ba4f3_104 rfl ?_
    refine pr_if_eq hA 118 dJ6_getChars_ba4f3_106 (by decide) (fun _ => ?_) (fun c_106 => absurd rfl c_106)
    refine pr_iload hA dJ6_getChars_ba4f3_118 rfl ?_
    refine pr_ireturn hA rfl rfl (Nat.zero_le _) (Nat.zero_le _) dJ6_getChars_ba4f3_120 ⟨?_, rfl, ?_, rfl⟩
    · rw [show jdg v = 3 by unfold jdg; rw [if_neg (by omega), if_neg (by omega)]]
    · unfold jGC; rw [if_neg (by omega), if_neg (by omega)]
theorem jGC_ne {I : pr_I} {u p v a : Nat} (h : a ≠ u) : jGC I u p v a = I a := by
  unfold jGC
  split
  · rw [pr_up_ne h]
  · split
    · rw [pr_up_ne h, pr_up_ne h]
    · rw [pr_up_ne h, pr_up_ne h, pr_up_ne h]
theorem jGC_lo {I : pr_I} {u n v j : Nat} (h : j < n) : jGC I u (n + jdg v) v u j = I u j := by
  unfold jGC jdg
  split
  · rw [pr_upk (by omega)]
  · split
    · rw [pr_upk (by omega), pr_upk (by omega)]
    · rw [pr_upk (by omega), pr_upk (by omega), pr_upk (by omega)]
theorem jGC_in {I : pr_I} {u n v : Nat} : ∀ j, j < jdg v → jGC I u (n + jdg v) v u (n + j) = nI ((jdec v).getD j 0) := by
  intro j hj
  unfold jGC jdec
  unfold jdg at hj ⊢
  by_cases h1 : v < 10
  · rw [if_pos h1] at hj
    rw [if_pos h1, if_pos h1, if_pos h1, show j = 0 by omega, show n + 1 - 1 = n + 0 by omega, pr_upe]; rfl
  · rw [if_neg h1] at hj
    rw [if_neg h1, if_neg h1, if_neg h1]
    by_cases h2 : v < 100
    · rw [if_pos h2] at hj
      rw [if_pos h2, if_pos h2, if_pos h2]
      rcases (by omega : j = 0 ∨ j = 1) with rfl | rfl
      · rw [show n + 2 - 2 = n + 0 by omega, pr_upe]; rfl
      · rw [pr_upk (by omega), show n + 2 - 1 = n + 1 by omega, pr_upe]; rfl
    · rw [if_neg h2] at hj
      rw [if_neg h2, if_neg h2, if_neg h2]
      rcases (by omega : j = 0 ∨ j = 1 ∨ j = 2) with rfl | rfl | rfl
      · rw [show n + 3 - 3 = n + 0 by omega, pr_upe]; rfl
      · rw [pr_upk (by omega), show n + 3 - 2 = n + 1 by omega, pr_upe]; rfl
      · rw [pr_upk (by omega), pr_upk (by omega), show n + 3 - 1 = n + 2 by omega, pr_upe]; rfl
theorem jGC_b {I : pr_I} {u p v m : Nat} (hv : v < 1000) (h : jBt m (I u)) : jBt m (jGC I u p v u) := by
  have up : ∀ (J : pr_I) (k c : Nat), c < 128 → jBt m (J u) → jBt m (pr_up J u k (nI c) u) := fun J k c hc hJ j hj => by
    by_cases e : j = k
    · rw [e, pr_upe]; exact jbf c hc
    · rw [pr_upk e]; exact hJ j hj
  unfold jGC
  split
  · exact up _ _ _ (by omega) h
  · split
    · exact up _ _ _ (by omega) (up _ _ _ (by omega) h)
    · exact up _ _ _ (by omega) (up _ _ _ (by omega) (up _ _ _ (by omega) h))
set_option maxRecDepth 100000 in
set_option maxHeartbeats 400000 in
theorem c_jai {g : pr_C} {l : Launch} (hl : l.stackTraces = false) {T : pr_T} {I : pr_I} {L : pr_L} {z b x : Nat} {tx : List Nat} (h0 : jB z b tx 0 T I) (hn : tx.length + 3 ≤ 300) (hx : x < 1000) : pr_M g l 5 1 700 mJ5_append_c97b9 [.ref b, .int (nI x)] T I L (jApp z b (tx ++ jdec x) T I L) pr_no := by
  have h00 := h0
  obtain ⟨v0, m0, g1, g2, g3, g4, g5, g6, g7, g8, g9, g10, g11, g12, g13, g14, g15, g16⟩ := h00
  have hd3 := jdg_3 x
  refine pr_ofG (by decide) rfl hl (Nat.le_of_ble_eq_true rfl) (fun X hA hX hXn hXt => ?_)
  subst hX
  show pr_G g X mJ5_append_c97b9.2.2.1 _ 0 0 0 [.ref b, .int (nI x), .null, .null] [] T I L
  refine pr_aload_n hA dJ5_append_c97b9_0 rfl ?_
  refine pr_getJI (v := nI tx.length) hA jC8 (by decide) rfl jfk_n g6 g9 dJ5_append_c97b9_1 ?_
  refine pr_istore_n (ls' := [_, _, _, _]) hA dJ5_append_c97b9_4 (by decide) rfl ?_
  refine pr_iload_n hA dJ5_append_c97b9_5 rfl ?_
  refine pr_iload_n hA dJ5_append_c97b9_6 rfl ?_
  refine pr_callSi hA [.int (nI x)] (c_jss (pr_hl hA) hx) s_J5_245 rfl (by decide) (Nat.zero_le _) (Nat.zero_le _) rfl (Nat.le_of_ble_eq_true rfl) dJ5_append_c97b9_7 ?_
  refine pr_iadd hA dJ5_append_c97b9_10 ?_
  refine pr_topE (z := nI (tx.length + jdg x)) (nI_add _ _) ?_
  refine pr_istore_n (ls' := [_, _, _, _]) hA dJ5_append_c97b9_11 (by decide) rfl ?_
  refine pr_aload_n hA dJ5_append_c97b9_12 rfl ?_
  refine pr_iload_n hA dJ5_append_c97b9_13 rfl ?_
  refine pr_callP (n := 1) hA rfl (As := [.int (nI (tx.length + jdg x))]) (c_jens (pr_hl hA) h0 (by omega)) ⟨kM_J5_100, rfl, by decide +kernel, ⟨_, _, _, kO_J5_ensureCapacityInternal_d00df⟩, kI_J5_ensureCapacityInternal_d00df, kZ_J5, kO_J5_ensureCapacityInternal_d00df, kI_J5_ensureCapacityInternal_d00df, by decide +kernel, by decide, rfl⟩ (by decide +kernel) h0.k rfl (by decide) (Nat.le_refl _) (Nat.le_refl _) rfl (Nat.le_of_ble_eq_true rfl) dJ5_append_c97b9_14 (fun v9 T9 I9 L9 q9 => ?_)
  obtain ⟨rfl, hF, rfl, h⟩ := q9
  have hj := h
  obtain ⟨v, m, h1, h2, h3, h4, h5, h6, h7, h8, h9, h10, h11, h12, h13, h14, h15, h16⟩ := h
  show pr_G g X _ _ 1 700 17 _ _ T9 I9 _
  refine pr_aload_n hA dJ5_append_c97b9_17 rfl ?_
  refine pr_callU (n := 0) hA rfl (As := []) (c_jlat (pr_hl hA) hj) ⟨kM_J5_83, rfl, by decide +kernel, ⟨_, _, _, kO_J5_isLatin1_aae02⟩, kI_J5_isLatin1_aae02, kZ_J5, kO_J5_isLatin1_aae02, kI_J5_isLatin1_aae02, by decide +kernel, by decide, rfl⟩ jgw_lat h6 rfl (by decide) (Nat.le_refl _) (Nat.le_refl _) rfl (Nat.le_of_ble_eq_true rfl) dJ5_append_c97b9_18 (fun v9 T8 I8 L8 q9 => ?_)
  obtain ⟨rfl, e7, e8, e9⟩ := q9; obtain rfl := e7.symm; obtain rfl := e8.symm; obtain rfl := e9.symm
  show pr_G g X _ _ 1 700 21 _ (.int 1 :: _) T9 I9 _
  refine pr_if_eq hA 37 dJ5_append_c97b9_21 (by decide) (fun c_21 => absurd c_21 (by decide)) (fun _ => ?_)
  refine pr_iload_n hA dJ5_append_c97b9_24 rfl ?_
  refine pr_iload_n hA dJ5_append_c97b9_25 rfl ?_
  refine pr_aload_n hA dJ5_append_c97b9_26 rfl ?_
  refine pr_getJR hA jC8 (by decide) rfl jfk_v h6 h7 dJ5_append_c97b9_27 ?_
  refine pr_callS hA rfl (As := [.int (nI x), .int (nI (tx.length + jdg x)), .ref v]) (c_jgc (pr_hl hA) hx h10 (by omega) h12 h13) s_J5_248 rfl (by decide) (Nat.le_refl _) (Nat.le_refl _) rfl (Nat.le_of_ble_eq_true rfl) dJ5_append_c97b9_30 (fun v9 T8 I8 L8 q9 => ?_) (fun _ _ _ _ q9 => q9.elim)
  obtain ⟨rfl, e7, e8, e9⟩ := q9; obtain rfl := e7.symm; obtain rfl := e8.symm; obtain rfl := e9.symm
  refine pr_pop hA dJ5_append_c97b9_33 rfl ?_
  refine pr_goto hA 48 dJ5_append_c97b9_34 (by decide) ?_
  refine pr_aload_n hA dJ5_append_c97b9_48 rfl ?_
  refine pr_iload_n hA dJ5_append_c97b9_49 rfl ?_
  refine pr_putJI hA jC8 (by decide) rfl rfl rfl rfl jfk_n h6 dJ5_append_c97b9_50 ?_
  refine pr_aload_n hA dJ5_append_c97b9_53 rfl ?_
  have hl := jdec_len x
  refine pr_areturn hA rfl (Or.inl ⟨_, rfl⟩) (Nat.le_refl _) (Nat.le_refl _) dJ5_append_c97b9_54 ⟨rfl, hF.trans ⟨Nat.le_refl _, fun a ha hab => ⟨rfl, rfl, ?_⟩⟩, rfl, jB.put h1 h2 h3 h4 h5 h6 h7 h10 h13 ?_ ?_ (by rw [hl]; exact h12) ?_ ?_ ?_ h16 (jdec_lt hx)⟩
  · rw [pr_up_ne (by omega), jGC_ne (by omega)]
  · rw [pr_upk (by decide), jGC_ne (Ne.symm h5)]; exact h8
  · rw [pr_upe, hl]
  · intro j hj
    rw [pr_upv h5]; exact jGC_b hx h14 j hj
  · intro j hj
    rw [pr_upv h5, jGC_lo hj]; exact h15 j hj
  · intro j hj
    rw [pr_upv h5]; exact jGC_in j (by omega)
set_option maxRecDepth 100000 in
set_option maxHeartbeats 400000 in
theorem c_jAC {g : pr_C} {l : Launch} (hl : l.stackTraces = false) {T : pr_T} {I : pr_I} {L : pr_L} {z b c : Nat} {tx : List Nat} (h0 : jB z b tx 0 T I) (hn : tx.length + 1 ≤ 300) (hc : c < 128) : pr_M g l 6 1 700 mJ4_append_cf468 [.ref b, .int (nI c)] T I L (jApp z b (tx ++ [c]) T I L) pr_no := by
  refine pr_ofG (by decide) rfl hl (Nat.le_of_ble_eq_true rfl) (fun X hA hX hXn hXt => ?_)
  subst hX
  show pr_G g X mJ4_append_cf468.2.2.1 _ 0 0 0 [.ref b, .int (nI c)] [] T I L
  refine pr_aload_n hA dJ4_append_cf468_0 rfl ?_
  refine pr_iload_n hA dJ4_append_cf468_1 rfl ?_
  refine pr_callSU (n := 1) hA rfl (As := [.int (nI c)]) (c_jac (pr_hl hA) h0 hn hc) rfl (by decide +kernel) (by decide) ⟨kM_J4_50, rfl, by decide +kernel, ⟨_, _, _, kO_J5_append_3fe6f⟩, kI_J5_append_3fe6f, kZ_J5, kO_J5_append_3fe6f, kI_J5_append_3fe6f, by decide +kernel, by decide, rfl⟩ h0.k rfl (by decide) (Nat.le_refl _) (Nat.le_refl _) rfl (Nat.le_of_ble_eq_true rfl) dJ4_append_cf468_2 (fun v9 T9 I9 L9 q9 => ?_)
  obtain ⟨rfl, hF, rfl, h⟩ := q9
  refine pr_pop hA dJ4_append_cf468_5 rfl ?_
  refine pr_aload_n hA dJ4_append_cf468_6 rfl ?_
  exact pr_areturn hA rfl (Or.inl ⟨_, rfl⟩) (Nat.le_refl _) (Nat.le_refl _) dJ4_append_cf468_7 ⟨rfl, hF, rfl, h⟩
set_option maxRecDepth 100000 in
set_option maxHeartbeats 400000 in
theorem c_jAI {g : pr_C} {l : Launch} (hl : l.stackTraces = false) {T : pr_T} {I : pr_I} {L : pr_L} {z b x : Nat} {tx : List Nat} (h0 : jB z b tx 0 T I) (hn : tx.length + 3 ≤ 300) (hx : x < 1000) : pr_M g l 6 1 700 mJ4_append_bf812 [.ref b, .int (nI x)] T I L (jApp z b (tx ++ jdec x) T I L) pr_no := by
  refine pr_ofG (by decide) rfl hl (Nat.le_of_ble_eq_true rfl) (fun X hA hX hXn hXt => ?_)
  subst hX
  show pr_G g X mJ4_append_bf812.2.2.1 _ 0 0 0 [.ref b, .int (nI x)] [] T I L
  refine pr_aload_n hA dJ4_append_bf812_0 rfl ?_
  refine pr_iload_n hA dJ4_append_bf812_1 rfl ?_
  refine pr_callSU (n := 1) hA rfl (As := [.int (nI x)]) (c_jai (pr_hl hA) h0 hn hx) rfl (by decide +kernel) (by decide) ⟨kM_J4_53, rfl, by decide +kernel, ⟨_, _, _, kO_J5_append_c97b9⟩, kI_J5_append_c97b9, kZ_J5, kO_J5_append_c97b9, kI_J5_append_c97b9, by decide +kernel, by decide, rfl⟩ h0.k rfl (by decide) (Nat.le_refl _) (Nat.le_refl _) rfl (Nat.le_of_ble_eq_true rfl) dJ4_append_bf812_2 (fun v9 T9 I9 L9 q9 => ?_)
  obtain ⟨rfl, hF, rfl, h⟩ := q9
  refine pr_pop hA dJ4_append_bf812_5 rfl ?_
  refine pr_aload_n hA dJ4_append_bf812_6 rfl ?_
  exact pr_areturn hA rfl (Or.inl ⟨_, rfl⟩) (Nat.le_refl _) (Nat.le_refl _) dJ4_append_bf812_7 ⟨rfl, hF, rfl, h⟩
